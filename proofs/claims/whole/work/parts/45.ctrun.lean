/-! 45: the class: run -/
/-- what a run does to the class beside the stadium -/
def KPP (v : Int) (M MM : NM) : Prop := (∀ K, ¬ stK K → K ≠ 2 → K ≠ 4 → K ≠ 16 → MM K = M K) ∧ (v < 0 → MM 4 0 0 2 = M 4 0 0 2) ∧ (0 ≤ v → MM 4 0 0 2 = 0) ∧ (∀ K j i s, stK K → j ≠ 0 → j ≠ 2 + (M 2 0 0 1 + M 2 0 0 2) % 6 → MM K j i s = M K j i s) ∧ SE (sl M 0) (sl MM (2 + (M 2 0 0 1 + M 2 0 0 2) % 6)) ∧ (v < 0 → MM 2 0 0 1 = M 2 0 0 1 ∧ MM 2 0 0 2 = M 2 0 0 2) ∧ (0 ≤ v → (M 2 0 0 2 < 5 → MM 2 0 0 1 = M 2 0 0 1 ∧ MM 2 0 0 2 = M 2 0 0 2 + 1) ∧ (5 ≤ M 2 0 0 2 → MM 2 0 0 1 = (M 2 0 0 1 + 1) % 6 ∧ MM 2 0 0 2 = M 2 0 0 2))
section
variable {X : XI}
theorem d_run {m : Int} {M : NM} {T : Int → Int} {L : Int} (hL : M 4 0 0 2 = L) (hL2 : 0 ≤ L ∧ L ≤ 120) (hT : ∀ k, 0 ≤ k → k < L → M 15 0 0 k = T k) (hI : Inv m (sl M 0)) (hm : m + 120 ≤ 62000) (ho : 0 ≤ M 2 0 0 1 ∧ M 2 0 0 1 ≤ 5) (hz : 0 ≤ M 2 0 0 2 ∧ M 2 0 0 2 ≤ 5) : HT X z_X7_run [.inr (.inr (some (7, 0, 0)))] M (fun rr MM => rr = some (.inl (prgN T L 120 (sk T L 0) (sl M 0) 0).1) ∧ ((prgN T L 120 (sk T L 0) (sl M 0) 0).1 < 0 → SE (sl M 0) (sl MM 0)) ∧ (0 ≤ (prgN T L 120 (sk T L 0) (sl M 0) 0).1 → SQ (prgN T L 120 (sk T L 0) (sl M 0) 0).2 (sl MM 0) ∧ Inv (m + 120) (sl MM 0)) ∧ KPP (prgN T L 120 (sk T L 0) (sl M 0) 0).1 M MM) := by
  refine ht_of (e := E_X7_run) rfl (?_ : EvI X E_X7_run (0, [some (.inr (.inr (some (7, 0, 0)))), none], [], M) _)
  have n4 : ¬ stK 4 := by unfold stK; omega
  have n15 : ¬ stK 15 := by unfold stK; omega
  refine seg_ok 4 (?_ : EvI X E_X7_run (8, [some (.inr (.inr (some (7, 0, 0)))), none], [.inr (.inr (some (5, 0, 0))), .inr (.inr (some (2, 0, 0)))], M) _)
  refine ev_cl (z := z_X2_prepare) (as := [.inr (.inr (some (2, 0, 0))), .inr (.inr (some (5, 0, 0)))]) (rest := []) rfl (d_prepare ho hz hI.1.2.2.2.2.2.2.2.1) ?_
  intro rr M1 hqM1
  obtain ⟨rfl, eM1, fM1⟩ := hqM1
  have s1 : sl M1 0 = sl M 0 := FR_sl fM1 (by omega)
  have hI1 : Inv m (sl M1 0) := by rw [s1]; exact hI
  have n2 : ¬ stK 2 := by unfold stK; omega
  have x2 : M1 2 = M 2 := FR_K fM1 n2
  show EvI X E_X7_run (11, [some (.inr (.inr (some (7, 0, 0)))), none], [], M1) _
  refine seg_ok 4 (?_ : EvI X E_X7_run (19, [some (.inr (.inr (some (7, 0, 0)))), none], [.inr (.inr (some (5, 0, 0))), .inr (.inr (some (4, 0, 0)))], M1) _)
  refine ev_cl (z := z_X4_runOn) (as := [.inr (.inr (some (4, 0, 0))), .inr (.inr (some (5, 0, 0)))]) (rest := []) rfl (d_runOn (T := T) (L := L) (by rw [FR_K fM1 n4]; exact hL) hL2 (fun k a b => by rw [FR_K fM1 n15]; exact hT k a b) hI1 hm) ?_
  intro rr M2 hq
  obtain ⟨rfl, q1, qF⟩ := hq
  rw [s1] at q1 ⊢
  have x0 : 2 + (M 2 0 0 1 + M 2 0 0 2) % 6 ≠ 0 := by omega
  have y2 : M2 2 = M 2 := by
    funext j i x
    exact (qF.2 2 (by decide) (by decide) j i x (Or.inr n2)).trans (by rw [x2])
  have yS : ∀ K j i s, stK K → j ≠ 0 → M2 K j i s = M1 K j i s := fun K j i s k z => qF.2 K (by unfold stK at k; omega) (by unfold stK at k; omega) j i s (Or.inl z)
  have eP : SE (sl M 0) (sl M2 (2 + (M 2 0 0 1 + M 2 0 0 2) % 6)) := SE_cg eM1 (fun K i s k => yS K _ i s k x0)
  have y4 : M2 4 0 0 2 = M 4 0 0 2 := (qF.1 2 (by decide) (by decide)).trans (by rw [FR_K fM1 n4])
  show EvI X E_X7_run (22, [some (.inr (.inr (some (7, 0, 0)))), none], [.inl ((prgN T L 120 (sk T L 0) (sl M 0) 0).1)], M2) _
  refine seg_ok 3 (?_ : EvI X E_X7_run (if (prgN T L 120 (sk T L 0) (sl M 0) 0).1 < 0 then 27 else 40, [some (.inr (.inr (some (7, 0, 0)))), some (.inl ((prgN T L 120 (sk T L 0) (sl M 0) 0).1))], [], M2) _)
  refine ev_if (fun h24 => ?_) (fun h24 => ?_)
  · refine seg_ok 4 (?_ : EvI X E_X7_run (35, [some (.inr (.inr (some (7, 0, 0)))), some (.inl ((prgN T L 120 (sk T L 0) (sl M 0) 0).1))], [.inr (.inr (some (5, 0, 0))), .inr (.inr (some (2, 0, 0)))], M2) _)
    refine ev_cl (z := z_X2_takeBack) (as := [.inr (.inr (some (2, 0, 0))), .inr (.inr (some (5, 0, 0)))]) (rest := []) rfl (d_takeBack (by rw [y2]; exact ho) (by rw [y2]; exact hz) (by rw [y2]; have := eP.2.2.2 6 (by decide) (by decide); have h6 := hI.1.2.2.2.2.2.2.2.1; simp only [sl] at this h6; omega)) ?_
    intro rr M3 hq
    obtain ⟨rfl, z1, z2⟩ := hq
    rw [y2] at z1
    show EvI X E_X7_run (38, [some (.inr (.inr (some (7, 0, 0)))), some (.inl ((prgN T L 120 (sk T L 0) (sl M 0) 0).1))], [], M3) _
    refine seg_ok 1 (?_ : EvI X E_X7_run (39, [some (.inr (.inr (some (7, 0, 0)))), some (.inl ((prgN T L 120 (sk T L 0) (sl M 0) 0).1))], [.inl ((prgN T L 120 (sk T L 0) (sl M 0) 0).1)], M3) _)
    refine ev_rt (r := some (.inl ((prgN T L 120 (sk T L 0) (sl M 0) 0).1))) rfl (?_)
    have yK : ∀ K, ¬ stK K → K ≠ 4 → K ≠ 16 → M2 K = M K := fun K k a b => by
      funext j i x
      exact (qF.2 K a b j i x (Or.inr k)).trans (by rw [FR_K fM1 k])
    have w2 : M3 2 = M 2 := (FR_K z2 n2).trans y2
    show _ ∧ (_ → SE (sl M 0) (sl M3 0)) ∧ (_ → SQ _ (sl M3 0) ∧ Inv (m + 120) (sl M3 0)) ∧ KPP _ M M3
    exact ⟨rfl, fun _ => SE_tr eP z1, fun z => absurd z (by omega), fun K k a b c => (FR_K z2 k).trans (yK K k b c), fun _ => by rw [FR_K z2 n4]; exact y4, fun z => absurd z (by omega), fun K j i s k a b => (z2 K j i s (Or.inl a)).trans ((yS K j i s k a).trans (fM1 K j i s (Or.inl b))), SE_cg eP (fun K i s k => z2 K _ i s (Or.inl x0)), fun _ => by rw [w2]; exact ⟨rfl, rfl⟩, fun z => absurd z (by omega)⟩
  · refine seg_ok 2 (?_ : EvI X E_X7_run (44, [some (.inr (.inr (some (7, 0, 0)))), some (.inl ((prgN T L 120 (sk T L 0) (sl M 0) 0).1))], [.inr (.inr (some (4, 0, 0)))], M2) _)
    refine ev_cl (z := z_X4_makeEmpty) (as := [.inr (.inr (some (4, 0, 0)))]) (rest := []) rfl d_makeEmpty ?_
    intro rr M4 hq
    obtain ⟨rfl, z1⟩ := hq
    show EvI X E_X7_run (47, [some (.inr (.inr (some (7, 0, 0)))), some (.inl ((prgN T L 120 (sk T L 0) (sl M 0) 0).1))], [.inl (M2 4 0 0 2)], M4) _
    refine seg_ok 1 (?_ : EvI X E_X7_run (48, [some (.inr (.inr (some (7, 0, 0)))), some (.inl ((prgN T L 120 (sk T L 0) (sl M 0) 0).1))], [], M4) _)
    have w2 : M4 2 = M 2 := by rw [z1]; exact (wri_K (by decide)).trans y2
    have hv : 0 ≤ (prgN T L 120 (sk T L 0) (sl M 0) 0).1 := by omega
    refine seg_ok 2 (?_ : EvI X E_X7_run (50, [some (.inr (.inr (some (7, 0, 0)))), some (.inl ((prgN T L 120 (sk T L 0) (sl M 0) 0).1))], [.inl ((prgN T L 120 (sk T L 0) (sl M 0) 0).1), .inr (.inr (some (7, 0, 0)))], M4) _)
    refine ev_cl (z := z_X7_recorded) (as := [.inr (.inr (some (7, 0, 0))), .inl ((prgN T L 120 (sk T L 0) (sl M 0) 0).1)]) (rest := []) rfl (d_recorded (by rw [w2]; exact ho) (by rw [w2]; exact hz)) ?_
    intro rr M5 hq
    obtain ⟨rfl, k1⟩ := hq
    show EvI X E_X7_run (53, [some (.inr (.inr (some (7, 0, 0)))), some (.inl ((prgN T L 120 (sk T L 0) (sl M 0) 0).1))], [.inl ((prgN T L 120 (sk T L 0) (sl M 0) 0).1)], M5) _
    refine ev_rt (r := some (.inl ((prgN T L 120 (sk T L 0) (sl M 0) 0).1))) rfl (?_)
    have yK : ∀ K, ¬ stK K → K ≠ 4 → K ≠ 16 → M2 K = M K := fun K k a b => by
      funext j i x
      exact (qF.2 K a b j i x (Or.inr k)).trans (by rw [FR_K fM1 k])
    have wK : ∀ K, K ≠ 2 → M5 K = M4 K := fun K k => by
      rcases Int.lt_or_le (M4 2 0 0 2) 5 with y | y
      · rw [(k1.2 hv).1 y]; exact wri_K k
      · rw [(k1.2 hv).2 y]; exact wri_K k
    have wE : ∀ K, K ≠ 2 → K ≠ 4 → M5 K = M2 K := fun K a b => (wK K a).trans (by rw [z1]; exact wri_K b)
    have wS : ∀ K, stK K → M5 K = M2 K := fun K k => wE K (by unfold stK at k; omega) (by unfold stK at k; omega)
    have wQ : SQ (sl M2 0) (sl M5 0) := fun K k => by
      funext i x
      show M5 K 0 i x = M2 K 0 i x
      rw [wS K k]
    show _ ∧ (_ → SE (sl M 0) (sl M5 0)) ∧ (_ → SQ _ (sl M5 0) ∧ Inv (m + 120) (sl M5 0)) ∧ KPP _ M M5
    refine ⟨rfl, fun z => absurd z h24, fun z => ⟨SQ_tr (q1 z).1 wQ, Inv_SE (q1 z).2 (SQ_SE wQ)⟩, fun K k a b c => (wE K a b).trans (yK K k b c), fun z => absurd z h24, fun _ => by rw [wK 4 (by decide), z1]; exact wri_eq, fun K j i s k a b => by rw [wS K k]; exact (yS K j i s k a).trans (fM1 K j i s (Or.inl b)), SE_cg eP (fun K i s k => by show M5 K _ i s = M2 K _ i s; rw [wS K k]), fun z => absurd z h24, fun z => ⟨fun y => ?_, fun y => ?_⟩⟩
    · have e := (k1.2 z).1 (by rw [w2]; exact y)
      rw [e, w2]
      exact ⟨(wri_nes (by decide)).trans (by rw [w2]), wri_eq⟩
    · have e := (k1.2 z).2 (by rw [w2]; exact y)
      rw [e, w2]
      exact ⟨wri_eq, (wri_nes (by decide)).trans (by rw [w2])⟩
end
