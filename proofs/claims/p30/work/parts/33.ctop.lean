/-! 33: the class: history, calls -/
section
variable {X : XI}
theorem d_prepare {M : NM} (ho : 0 ≤ M 2 0 0 1 ∧ M 2 0 0 1 ≤ 5) (hz : 0 ≤ M 2 0 0 2 ∧ M 2 0 0 2 ≤ 5) (hcl : M 5 0 0 6 = 0 ∨ M 5 0 0 6 = 1) : HT X z_X2_prepare [.inr (.inr (some (2, 0, 0))), .inr (.inr (some (5, 0, 0)))] M (fun rr MM => rr = none ∧ SE (sl M 0) (sl MM (2 + ((M 2 0 0 1 + M 2 0 0 2) % 6))) ∧ FR (2 + ((M 2 0 0 1 + M 2 0 0 2) % 6)) M MM) := by
  refine ht_of (e := E_X2_prepare) rfl (?_ : EvI X E_X2_prepare (0, [some (.inr (.inr (some (2, 0, 0)))), some (.inr (.inr (some (5, 0, 0))))], [], M) _)
  refine seg_ok 11 (⟨by omega, by omega, by omega, ?_⟩ : ((-2147483648 : Int) ≤ ((M 2 0 0 1) + (M 2 0 0 2)) ∧ ((M 2 0 0 1) + (M 2 0 0 2)) < 2147483648) ∧ ((0 : Int) ≤ ((M 2 0 0 1) + (M 2 0 0 2)) ∧ (0 : Int) < 6) ∧ ((0 : Int) ≤ (((M 2 0 0 1) + (M 2 0 0 2)) % 6) ∧ (((M 2 0 0 1) + (M 2 0 0 2)) % 6) < 6) ∧ EvI X E_X2_prepare (18, [some (.inr (.inr (some (2, 0, 0)))), some (.inr (.inr (some (5, 0, 0))))], [.inr (.inr (some (5, 0, 0))), .inr (.inr (some (5, (2 + (((M 2 0 0 1) + (M 2 0 0 2)) % 6)), 0)))], M) _)
  refine ev_cl (z := z_X5_copyFrom) (as := [.inr (.inr (some (5, (2 + (((M 2 0 0 1) + (M 2 0 0 2)) % 6)), 0))), .inr (.inr (some (5, 0, 0)))]) (rest := []) rfl (d_cpyStadium (by omega) hcl) ?_
  intro rr M1 hqM1
  obtain ⟨rfl, eM1, fM1⟩ := hqM1
  show EvI X E_X2_prepare (21, [some (.inr (.inr (some (2, 0, 0)))), some (.inr (.inr (some (5, 0, 0))))], [], M1) _
  refine ev_rt (r := none) rfl (?_)
  exact ⟨rfl, eM1, fM1⟩


theorem d_keepPrepared {M : NM} (ho : 0 ≤ M 2 0 0 1 ∧ M 2 0 0 1 ≤ 5) (hz : 0 ≤ M 2 0 0 2 ∧ M 2 0 0 2 ≤ 5) : HT X z_X2_keepPrepared [.inr (.inr (some (2, 0, 0)))] M (fun rr MM => rr = none ∧ (M 2 0 0 2 < 5 → MM = wri M 2 0 0 2 (M 2 0 0 2 + 1)) ∧ (5 ≤ M 2 0 0 2 → MM = wri M 2 0 0 1 ((M 2 0 0 1 + 1) % 6))) := by
  refine ht_of (e := E_X2_keepPrepared) rfl (?_ : EvI X E_X2_keepPrepared (0, [some (.inr (.inr (some (2, 0, 0))))], [], M) _)
  refine seg_ok 4 (?_ : EvI X E_X2_keepPrepared (if (M 2 0 0 2) < 5 then 8 else 21, [some (.inr (.inr (some (2, 0, 0))))], [], M) _)
  refine ev_if (fun h5 => ?_) (fun h5 => ?_)
  · refine seg_ok 7 (⟨by omega, ?_⟩ : ((-2147483648 : Int) ≤ ((M 2 0 0 2) + 1) ∧ ((M 2 0 0 2) + 1) < 2147483648) ∧ EvI X E_X2_keepPrepared (34, [some (.inr (.inr (some (2, 0, 0))))], [], (wri M 2 0 0 2 ((M 2 0 0 2) + 1))) _)
    refine ev_rt (r := none) rfl (?_)
    exact ⟨rfl, fun _ => rfl, fun z => by omega⟩
  · refine seg_ok 8 (⟨by omega, by omega, ?_⟩ : ((-2147483648 : Int) ≤ ((M 2 0 0 1) + 1) ∧ ((M 2 0 0 1) + 1) < 2147483648) ∧ ((0 : Int) ≤ ((M 2 0 0 1) + 1) ∧ (0 : Int) < 6) ∧ EvI X E_X2_keepPrepared (34, [some (.inr (.inr (some (2, 0, 0))))], [], (wri M 2 0 0 1 (((M 2 0 0 1) + 1) % 6))) _)
    refine ev_rt (r := none) rfl (?_)
    exact ⟨rfl, fun z => by omega, fun _ => rfl⟩
def RC (v : Int) (M MM : NM) : Prop := (v < 0 → MM = M) ∧ (0 ≤ v → (M 2 0 0 2 < 5 → MM = wri M 2 0 0 2 (M 2 0 0 2 + 1)) ∧ (5 ≤ M 2 0 0 2 → MM = wri M 2 0 0 1 ((M 2 0 0 1 + 1) % 6)))
theorem d_recorded {M : NM} (ho : 0 ≤ M 2 0 0 1 ∧ M 2 0 0 1 ≤ 5) (hz : 0 ≤ M 2 0 0 2 ∧ M 2 0 0 2 ≤ 5) {v : Int} : HT X z_X7_recorded [.inr (.inr (some (7, 0, 0))), .inl v] M (fun rr MM => rr = some (.inl v) ∧ RC v M MM) := by
  refine ht_of (e := E_X7_recorded) rfl (?_ : EvI X E_X7_recorded (0, [some (.inr (.inr (some (7, 0, 0)))), some (.inl v)], [], M) _)
  refine seg_ok 2 (?_ : EvI X E_X7_recorded (if v < 0 then 11 else 4, [some (.inr (.inr (some (7, 0, 0)))), some (.inl v)], [], M) _)
  refine ev_if (fun h1 => ?_) (fun h1 => ?_)
  · refine seg_ok 1 (?_ : EvI X E_X7_recorded (12, [some (.inr (.inr (some (7, 0, 0)))), some (.inl v)], [.inl v], M) _)
    refine ev_rt (r := some (.inl v)) rfl (?_)
    exact ⟨rfl, fun _ => rfl, fun z => by omega⟩
  · refine seg_ok 2 (?_ : EvI X E_X7_recorded (8, [some (.inr (.inr (some (7, 0, 0)))), some (.inl v)], [.inr (.inr (some (2, 0, 0)))], M) _)
    refine ev_cl (z := z_X2_keepPrepared) (as := [.inr (.inr (some (2, 0, 0)))]) (rest := []) rfl (d_keepPrepared ho hz) ?_
    intro rr M1 hqM1
    obtain ⟨rfl, kM1⟩ := hqM1
    show EvI X E_X7_recorded (11, [some (.inr (.inr (some (7, 0, 0)))), some (.inl v)], [], M1) _
    refine seg_ok 1 (?_ : EvI X E_X7_recorded (12, [some (.inr (.inr (some (7, 0, 0)))), some (.inl v)], [.inl v], M1) _)
    refine ev_rt (r := some (.inl v)) rfl (?_)
    exact ⟨rfl, fun z => by omega, fun _ => kM1⟩
/-- what an order does to the class beside the stadium: its past, no more -/
def KPC (v : Int) (M MM : NM) : Prop := (∀ K, ¬ stK K → K ≠ 2 → MM K = M K) ∧ (∀ j, j ≠ 0 → j ≠ 2 + (M 2 0 0 1 + M 2 0 0 2) % 6 → sl MM j = sl M j) ∧ SE (sl M 0) (sl MM (2 + (M 2 0 0 1 + M 2 0 0 2) % 6)) ∧ (v < 0 → MM 2 = M 2) ∧ (0 ≤ v → (M 2 0 0 2 < 5 → MM 2 0 0 1 = M 2 0 0 1 ∧ MM 2 0 0 2 = M 2 0 0 2 + 1) ∧ (5 ≤ M 2 0 0 2 → MM 2 0 0 1 = (M 2 0 0 1 + 1) % 6 ∧ MM 2 0 0 2 = M 2 0 0 2))
theorem sl_off {M : NM} {K : Nat} {j j' i s v : Int} (h : ¬ stK K ∨ j' ≠ j) (hs : K = 2) : sl (wri M 2 0 0 s v) j' = fun K' i' s' => wri M 2 0 0 s v K' j' i' s' := rfl
theorem SE_cg {S S' T : Sl} (h : SE S T) (e : ∀ K i s, stK K → S' K i s = T K i s) : SE S S' := by
  obtain ⟨⟨a1, a2, a3, a4, a5, a6⟩, b, c, d⟩ := h
  exact ⟨⟨fun x w x0 x1 w0 w1 => (e _ _ _ stK_0).trans (a1 x w x0 x1 w0 w1), fun x x0 x1 => (e _ _ _ stK_13).trans (a2 x x0 x1), fun x x0 x1 => (e _ _ _ stK_14).trans (a3 x x0 x1), (e _ _ _ stK_1).trans a4, (e _ _ _ stK_1).trans a5, (e _ _ _ stK_1).trans a6⟩, fun x w x0 x1 w0 w1 => (e _ _ _ stK_3).trans (b x w x0 x1 w0 w1), fun x w x0 x1 w0 w1 => (e _ _ _ stK_6).trans (c x w x0 x1 w0 w1), fun x x0 x1 => (e _ _ _ stK_5).trans (d x x0 x1)⟩
theorem actC {v : Int} {M M1 M2 M3 : NM} (ho : 0 ≤ M 2 0 0 1 ∧ M 2 0 0 1 ≤ 5) (hz : 0 ≤ M 2 0 0 2 ∧ M 2 0 0 2 ≤ 5) (e : SE (sl M 0) (sl M1 (2 + (M 2 0 0 1 + M 2 0 0 2) % 6))) (f1 : FR (2 + (M 2 0 0 1 + M 2 0 0 2) % 6) M M1) (f2 : FR 0 M1 M2) (k : RC v M2 M3) : (∀ K, stK K → M3 K = M2 K) ∧ KPC v M M3 := by
  have n2 : ¬ stK 2 := by unfold stK; omega
  have e2 : M2 2 = M 2 := (FR_K f2 n2).trans (FR_K f1 n2)
  have eK : ∀ K, K ≠ 2 → M3 K = M2 K := by
    intro K hK
    rcases Int.lt_or_le v 0 with z | z
    · rw [k.1 z]
    · rcases Int.lt_or_le (M2 2 0 0 2) 5 with y | y
      · rw [(k.2 z).1 y]; exact wri_K hK
      · rw [(k.2 z).2 y]; exact wri_K hK
  have eS : ∀ K, stK K → M3 K = M2 K := fun K h => eK K (fun z => n2 (by rw [← z]; exact h))
  refine ⟨eS, fun K h hK => (eK K hK).trans ((FR_K f2 h).trans (FR_K f1 h)), fun j j0 jp => ?_, SE_cg e (fun K i s h => ?_), fun z => by rw [k.1 z, e2], fun z => ⟨fun y => ?_, fun y => ?_⟩⟩
  · funext K i s
    by_cases h : K = 2
    · subst h
      show M3 2 j i s = M 2 j i s
      rcases Int.lt_or_le v 0 with z | z
      · rw [k.1 z, e2]
      · rcases Int.lt_or_le (M2 2 0 0 2) 5 with y | y
        · rw [(k.2 z).1 y, ← e2]; exact wri_nej j0
        · rw [(k.2 z).2 y, ← e2]; exact wri_nej j0
    · show M3 K j i s = M K j i s
      rw [eK K h]
      exact (f2 K j i s (Or.inl j0)).trans (f1 K j i s (Or.inl jp))
  · show M3 K _ i s = M1 K _ i s
    rw [eS K h]
    exact f2 K _ i s (Or.inl (by omega))
  · have := (k.2 z).1 (by rw [e2]; exact y)
    rw [this, e2]
    exact ⟨(wri_nes (by decide)).trans (by rw [e2]), wri_eq⟩
  · have := (k.2 z).2 (by rw [e2]; exact y)
    rw [this, e2]
    exact ⟨wri_eq, (wri_nes (by decide)).trans (by rw [e2])⟩
theorem d_addBlock {m : Int} {M : NM} (hI : Inv m (sl M 0)) (ho : 0 ≤ M 2 0 0 1 ∧ M 2 0 0 1 ≤ 5) (hz : 0 ≤ M 2 0 0 2 ∧ M 2 0 0 2 ≤ 5) {x y z : Int} : HT X z_X7_addBlock [.inr (.inr (some (7, 0, 0))), .inl x, .inl y, .inl z] M (fun rr MM => rr = some (.inl (opBlock (sl M 0) x y z).1) ∧ (∀ K i s, stK K → MM K 0 i s = (opBlock (sl M 0) x y z).2 K i s) ∧ KPC (opBlock (sl M 0) x y z).1 M MM) := by
  refine ht_of (e := E_X7_addBlock) rfl (?_ : EvI X E_X7_addBlock (0, [some (.inr (.inr (some (7, 0, 0)))), some (.inl x), some (.inl y), some (.inl z)], [], M) _)
  refine seg_ok 4 (?_ : EvI X E_X7_addBlock (8, [some (.inr (.inr (some (7, 0, 0)))), some (.inl x), some (.inl y), some (.inl z)], [.inr (.inr (some (5, 0, 0))), .inr (.inr (some (2, 0, 0)))], M) _)
  refine ev_cl (z := z_X2_prepare) (as := [.inr (.inr (some (2, 0, 0))), .inr (.inr (some (5, 0, 0)))]) (rest := []) rfl (d_prepare ho hz hI.1.2.2.2.2.2.2.2.1) ?_
  intro rr M1 hqM1
  obtain ⟨rfl, eM1, fM1⟩ := hqM1
  have s1 : sl M1 0 = sl M 0 := FR_sl fM1 (by omega)
  have hI1 : Inv m (sl M1 0) := by rw [s1]; exact hI
  have n2 : ¬ stK 2 := by unfold stK; omega
  have x2 : M1 2 = M 2 := FR_K fM1 n2
  show EvI X E_X7_addBlock (11, [some (.inr (.inr (some (7, 0, 0)))), some (.inl x), some (.inl y), some (.inl z)], [], M1) _
  refine seg_ok 7 (?_ : EvI X E_X7_addBlock (22, [some (.inr (.inr (some (7, 0, 0)))), some (.inl x), some (.inl y), some (.inl z)], [.inl z, .inl y, .inl x, .inr (.inr (some (1, 0, 0))), .inr (.inr (some (7, 0, 0)))], M1) _)
  refine ev_cl (z := z_X1_makeBlock) (as := [.inr (.inr (some (1, 0, 0))), .inl x, .inl y, .inl z]) (rest := [.inr (.inr (some (7, 0, 0)))]) rfl (d_makeBlock hI1) ?_
  intro rr M2 hqM2
  obtain ⟨rfl, sM2, fM2⟩ := hqM2
  rw [s1] at sM2
  rw [s1]
  have y2 : M2 2 = M 2 := (FR_K fM2 n2).trans x2
  show EvI X E_X7_addBlock (25, [some (.inr (.inr (some (7, 0, 0)))), some (.inl x), some (.inl y), some (.inl z)], [.inl ((opBlock (sl M 0) x y z).1), .inr (.inr (some (7, 0, 0)))], M2) _
  refine ev_cl (z := z_X7_recorded) (as := [.inr (.inr (some (7, 0, 0))), .inl ((opBlock (sl M 0) x y z).1)]) (rest := []) rfl (d_recorded (by rw [y2]; exact ho) (by rw [y2]; exact hz)) ?_
  intro rr M3 hqM3
  obtain ⟨rfl, kM3⟩ := hqM3
  show EvI X E_X7_addBlock (28, [some (.inr (.inr (some (7, 0, 0)))), some (.inl x), some (.inl y), some (.inl z)], [.inl ((opBlock (sl M 0) x y z).1)], M3) _
  refine ev_rt (r := some (.inl ((opBlock (sl M 0) x y z).1))) rfl (?_)
  obtain ⟨q1, q2⟩ := actC ho hz eM1 fM1 fM2 kM3
  exact ⟨rfl, fun K i s h => (congrFun (congrFun (congrFun (q1 K h) 0) i) s).trans (congrFun (congrFun (congrFun sM2 K) i) s), q2⟩
theorem d_addStage {m : Int} {M : NM} (hI : Inv m (sl M 0)) (ho : 0 ≤ M 2 0 0 1 ∧ M 2 0 0 1 ≤ 5) (hz : 0 ≤ M 2 0 0 2 ∧ M 2 0 0 2 ≤ 5)  : HT X z_X7_addStage [.inr (.inr (some (7, 0, 0)))] M (fun rr MM => rr = some (.inl (opStage (sl M 0)).1) ∧ (∀ K i s, stK K → MM K 0 i s = (opStage (sl M 0)).2 K i s) ∧ KPC (opStage (sl M 0)).1 M MM) := by
  refine ht_of (e := E_X7_addStage) rfl (?_ : EvI X E_X7_addStage (0, [some (.inr (.inr (some (7, 0, 0))))], [], M) _)
  refine seg_ok 4 (?_ : EvI X E_X7_addStage (8, [some (.inr (.inr (some (7, 0, 0))))], [.inr (.inr (some (5, 0, 0))), .inr (.inr (some (2, 0, 0)))], M) _)
  refine ev_cl (z := z_X2_prepare) (as := [.inr (.inr (some (2, 0, 0))), .inr (.inr (some (5, 0, 0)))]) (rest := []) rfl (d_prepare ho hz hI.1.2.2.2.2.2.2.2.1) ?_
  intro rr M1 hqM1
  obtain ⟨rfl, eM1, fM1⟩ := hqM1
  have s1 : sl M1 0 = sl M 0 := FR_sl fM1 (by omega)
  have hI1 : Inv m (sl M1 0) := by rw [s1]; exact hI
  have n2 : ¬ stK 2 := by unfold stK; omega
  have x2 : M1 2 = M 2 := FR_K fM1 n2
  show EvI X E_X7_addStage (11, [some (.inr (.inr (some (7, 0, 0))))], [], M1) _
  refine seg_ok 4 (?_ : EvI X E_X7_addStage (19, [some (.inr (.inr (some (7, 0, 0))))], [.inr (.inr (some (1, 0, 0))), .inr (.inr (some (7, 0, 0)))], M1) _)
  refine ev_cl (z := z_X1_makeStage) (as := [.inr (.inr (some (1, 0, 0)))]) (rest := [.inr (.inr (some (7, 0, 0)))]) rfl (d_makeStage hI1) ?_
  intro rr M2 hqM2
  obtain ⟨rfl, sM2, fM2⟩ := hqM2
  rw [s1] at sM2
  rw [s1]
  have y2 : M2 2 = M 2 := (FR_K fM2 n2).trans x2
  show EvI X E_X7_addStage (22, [some (.inr (.inr (some (7, 0, 0))))], [.inl ((opStage (sl M 0)).1), .inr (.inr (some (7, 0, 0)))], M2) _
  refine ev_cl (z := z_X7_recorded) (as := [.inr (.inr (some (7, 0, 0))), .inl ((opStage (sl M 0)).1)]) (rest := []) rfl (d_recorded (by rw [y2]; exact ho) (by rw [y2]; exact hz)) ?_
  intro rr M3 hqM3
  obtain ⟨rfl, kM3⟩ := hqM3
  show EvI X E_X7_addStage (25, [some (.inr (.inr (some (7, 0, 0))))], [.inl ((opStage (sl M 0)).1)], M3) _
  refine ev_rt (r := some (.inl ((opStage (sl M 0)).1))) rfl (?_)
  obtain ⟨q1, q2⟩ := actC ho hz eM1 fM1 fM2 kM3
  exact ⟨rfl, fun K i s h => (congrFun (congrFun (congrFun (q1 K h) 0) i) s).trans (congrFun (congrFun (congrFun sM2 K) i) s), q2⟩
theorem d_addPiece {m : Int} {M : NM} (hI : Inv m (sl M 0)) (ho : 0 ≤ M 2 0 0 1 ∧ M 2 0 0 1 ≤ 5) (hz : 0 ≤ M 2 0 0 2 ∧ M 2 0 0 2 ≤ 5) {x f t : Int} : HT X z_X7_addPiece [.inr (.inr (some (7, 0, 0))), .inl x, .inl f, .inl t] M (fun rr MM => rr = some (.inl (opPiece (sl M 0) x f t).1) ∧ (∀ K i s, stK K → MM K 0 i s = (opPiece (sl M 0) x f t).2 K i s) ∧ KPC (opPiece (sl M 0) x f t).1 M MM) := by
  refine ht_of (e := E_X7_addPiece) rfl (?_ : EvI X E_X7_addPiece (0, [some (.inr (.inr (some (7, 0, 0)))), some (.inl x), some (.inl f), some (.inl t)], [], M) _)
  refine seg_ok 4 (?_ : EvI X E_X7_addPiece (8, [some (.inr (.inr (some (7, 0, 0)))), some (.inl x), some (.inl f), some (.inl t)], [.inr (.inr (some (5, 0, 0))), .inr (.inr (some (2, 0, 0)))], M) _)
  refine ev_cl (z := z_X2_prepare) (as := [.inr (.inr (some (2, 0, 0))), .inr (.inr (some (5, 0, 0)))]) (rest := []) rfl (d_prepare ho hz hI.1.2.2.2.2.2.2.2.1) ?_
  intro rr M1 hqM1
  obtain ⟨rfl, eM1, fM1⟩ := hqM1
  have s1 : sl M1 0 = sl M 0 := FR_sl fM1 (by omega)
  have hI1 : Inv m (sl M1 0) := by rw [s1]; exact hI
  have n2 : ¬ stK 2 := by unfold stK; omega
  have x2 : M1 2 = M 2 := FR_K fM1 n2
  show EvI X E_X7_addPiece (11, [some (.inr (.inr (some (7, 0, 0)))), some (.inl x), some (.inl f), some (.inl t)], [], M1) _
  refine seg_ok 7 (?_ : EvI X E_X7_addPiece (22, [some (.inr (.inr (some (7, 0, 0)))), some (.inl x), some (.inl f), some (.inl t)], [.inl t, .inl f, .inl x, .inr (.inr (some (1, 0, 0))), .inr (.inr (some (7, 0, 0)))], M1) _)
  refine ev_cl (z := z_X1_makePiece) (as := [.inr (.inr (some (1, 0, 0))), .inl x, .inl f, .inl t]) (rest := [.inr (.inr (some (7, 0, 0)))]) rfl (d_makePiece hI1) ?_
  intro rr M2 hqM2
  obtain ⟨rfl, sM2, fM2⟩ := hqM2
  rw [s1] at sM2
  rw [s1]
  have y2 : M2 2 = M 2 := (FR_K fM2 n2).trans x2
  show EvI X E_X7_addPiece (25, [some (.inr (.inr (some (7, 0, 0)))), some (.inl x), some (.inl f), some (.inl t)], [.inl ((opPiece (sl M 0) x f t).1), .inr (.inr (some (7, 0, 0)))], M2) _
  refine ev_cl (z := z_X7_recorded) (as := [.inr (.inr (some (7, 0, 0))), .inl ((opPiece (sl M 0) x f t).1)]) (rest := []) rfl (d_recorded (by rw [y2]; exact ho) (by rw [y2]; exact hz)) ?_
  intro rr M3 hqM3
  obtain ⟨rfl, kM3⟩ := hqM3
  show EvI X E_X7_addPiece (28, [some (.inr (.inr (some (7, 0, 0)))), some (.inl x), some (.inl f), some (.inl t)], [.inl ((opPiece (sl M 0) x f t).1)], M3) _
  refine ev_rt (r := some (.inl ((opPiece (sl M 0) x f t).1))) rfl (?_)
  obtain ⟨q1, q2⟩ := actC ho hz eM1 fM1 fM2 kM3
  exact ⟨rfl, fun K i s h => (congrFun (congrFun (congrFun (q1 K h) 0) i) s).trans (congrFun (congrFun (congrFun sM2 K) i) s), q2⟩
theorem d_putUp {m : Int} {M : NM} (hI : Inv m (sl M 0)) (ho : 0 ≤ M 2 0 0 1 ∧ M 2 0 0 1 ≤ 5) (hz : 0 ≤ M 2 0 0 2 ∧ M 2 0 0 2 ≤ 5) {x : Int} : HT X z_X7_putUp [.inr (.inr (some (7, 0, 0))), .inl x] M (fun rr MM => rr = some (.inl (opUp (sl M 0) x).1) ∧ (∀ K i s, stK K → MM K 0 i s = (opUp (sl M 0) x).2 K i s) ∧ KPC (opUp (sl M 0) x).1 M MM) := by
  refine ht_of (e := E_X7_putUp) rfl (?_ : EvI X E_X7_putUp (0, [some (.inr (.inr (some (7, 0, 0)))), some (.inl x)], [], M) _)
  refine seg_ok 4 (?_ : EvI X E_X7_putUp (8, [some (.inr (.inr (some (7, 0, 0)))), some (.inl x)], [.inr (.inr (some (5, 0, 0))), .inr (.inr (some (2, 0, 0)))], M) _)
  refine ev_cl (z := z_X2_prepare) (as := [.inr (.inr (some (2, 0, 0))), .inr (.inr (some (5, 0, 0)))]) (rest := []) rfl (d_prepare ho hz hI.1.2.2.2.2.2.2.2.1) ?_
  intro rr M1 hqM1
  obtain ⟨rfl, eM1, fM1⟩ := hqM1
  have s1 : sl M1 0 = sl M 0 := FR_sl fM1 (by omega)
  have hI1 : Inv m (sl M1 0) := by rw [s1]; exact hI
  have n2 : ¬ stK 2 := by unfold stK; omega
  have x2 : M1 2 = M 2 := FR_K fM1 n2
  show EvI X E_X7_putUp (11, [some (.inr (.inr (some (7, 0, 0)))), some (.inl x)], [], M1) _
  refine seg_ok 5 (?_ : EvI X E_X7_putUp (20, [some (.inr (.inr (some (7, 0, 0)))), some (.inl x)], [.inl x, .inr (.inr (some (1, 0, 0))), .inr (.inr (some (7, 0, 0)))], M1) _)
  refine ev_cl (z := z_X1_raiseStage) (as := [.inr (.inr (some (1, 0, 0))), .inl x]) (rest := [.inr (.inr (some (7, 0, 0)))]) rfl (d_raiseStage hI1) ?_
  intro rr M2 hqM2
  obtain ⟨rfl, sM2, fM2⟩ := hqM2
  rw [s1] at sM2
  rw [s1]
  have y2 : M2 2 = M 2 := (FR_K fM2 n2).trans x2
  show EvI X E_X7_putUp (23, [some (.inr (.inr (some (7, 0, 0)))), some (.inl x)], [.inl ((opUp (sl M 0) x).1), .inr (.inr (some (7, 0, 0)))], M2) _
  refine ev_cl (z := z_X7_recorded) (as := [.inr (.inr (some (7, 0, 0))), .inl ((opUp (sl M 0) x).1)]) (rest := []) rfl (d_recorded (by rw [y2]; exact ho) (by rw [y2]; exact hz)) ?_
  intro rr M3 hqM3
  obtain ⟨rfl, kM3⟩ := hqM3
  show EvI X E_X7_putUp (26, [some (.inr (.inr (some (7, 0, 0)))), some (.inl x)], [.inl ((opUp (sl M 0) x).1)], M3) _
  refine ev_rt (r := some (.inl ((opUp (sl M 0) x).1))) rfl (?_)
  obtain ⟨q1, q2⟩ := actC ho hz eM1 fM1 fM2 kM3
  exact ⟨rfl, fun K i s h => (congrFun (congrFun (congrFun (q1 K h) 0) i) s).trans (congrFun (congrFun (congrFun sM2 K) i) s), q2⟩
theorem d_takeDown {m : Int} {M : NM} (hI : Inv m (sl M 0)) (ho : 0 ≤ M 2 0 0 1 ∧ M 2 0 0 1 ≤ 5) (hz : 0 ≤ M 2 0 0 2 ∧ M 2 0 0 2 ≤ 5) {x : Int} : HT X z_X7_takeDown [.inr (.inr (some (7, 0, 0))), .inl x] M (fun rr MM => rr = some (.inl (opDown (sl M 0) x).1) ∧ (∀ K i s, stK K → MM K 0 i s = (opDown (sl M 0) x).2 K i s) ∧ KPC (opDown (sl M 0) x).1 M MM) := by
  refine ht_of (e := E_X7_takeDown) rfl (?_ : EvI X E_X7_takeDown (0, [some (.inr (.inr (some (7, 0, 0)))), some (.inl x)], [], M) _)
  refine seg_ok 4 (?_ : EvI X E_X7_takeDown (8, [some (.inr (.inr (some (7, 0, 0)))), some (.inl x)], [.inr (.inr (some (5, 0, 0))), .inr (.inr (some (2, 0, 0)))], M) _)
  refine ev_cl (z := z_X2_prepare) (as := [.inr (.inr (some (2, 0, 0))), .inr (.inr (some (5, 0, 0)))]) (rest := []) rfl (d_prepare ho hz hI.1.2.2.2.2.2.2.2.1) ?_
  intro rr M1 hqM1
  obtain ⟨rfl, eM1, fM1⟩ := hqM1
  have s1 : sl M1 0 = sl M 0 := FR_sl fM1 (by omega)
  have hI1 : Inv m (sl M1 0) := by rw [s1]; exact hI
  have n2 : ¬ stK 2 := by unfold stK; omega
  have x2 : M1 2 = M 2 := FR_K fM1 n2
  show EvI X E_X7_takeDown (11, [some (.inr (.inr (some (7, 0, 0)))), some (.inl x)], [], M1) _
  refine seg_ok 5 (?_ : EvI X E_X7_takeDown (20, [some (.inr (.inr (some (7, 0, 0)))), some (.inl x)], [.inl x, .inr (.inr (some (1, 0, 0))), .inr (.inr (some (7, 0, 0)))], M1) _)
  refine ev_cl (z := z_X1_lowerStage) (as := [.inr (.inr (some (1, 0, 0))), .inl x]) (rest := [.inr (.inr (some (7, 0, 0)))]) rfl (d_lowerStage hI1) ?_
  intro rr M2 hqM2
  obtain ⟨rfl, sM2, fM2⟩ := hqM2
  rw [s1] at sM2
  rw [s1]
  have y2 : M2 2 = M 2 := (FR_K fM2 n2).trans x2
  show EvI X E_X7_takeDown (23, [some (.inr (.inr (some (7, 0, 0)))), some (.inl x)], [.inl ((opDown (sl M 0) x).1), .inr (.inr (some (7, 0, 0)))], M2) _
  refine ev_cl (z := z_X7_recorded) (as := [.inr (.inr (some (7, 0, 0))), .inl ((opDown (sl M 0) x).1)]) (rest := []) rfl (d_recorded (by rw [y2]; exact ho) (by rw [y2]; exact hz)) ?_
  intro rr M3 hqM3
  obtain ⟨rfl, kM3⟩ := hqM3
  show EvI X E_X7_takeDown (26, [some (.inr (.inr (some (7, 0, 0)))), some (.inl x)], [.inl ((opDown (sl M 0) x).1)], M3) _
  refine ev_rt (r := some (.inl ((opDown (sl M 0) x).1))) rfl (?_)
  obtain ⟨q1, q2⟩ := actC ho hz eM1 fM1 fM2 kM3
  exact ⟨rfl, fun K i s h => (congrFun (congrFun (congrFun (q1 K h) 0) i) s).trans (congrFun (congrFun (congrFun sM2 K) i) s), q2⟩
theorem d_hold {m : Int} {M : NM} (hI : Inv m (sl M 0)) (ho : 0 ≤ M 2 0 0 1 ∧ M 2 0 0 1 ≤ 5) (hz : 0 ≤ M 2 0 0 2 ∧ M 2 0 0 2 ≤ 5) {b n w : Int} : HT X z_X7_hold [.inr (.inr (some (7, 0, 0))), .inl b, .inl n, .inl w] M (fun rr MM => rr = some (.inl (opHold (sl M 0) b n w).1) ∧ (∀ K i s, stK K → MM K 0 i s = (opHold (sl M 0) b n w).2 K i s) ∧ KPC (opHold (sl M 0) b n w).1 M MM) := by
  refine ht_of (e := E_X7_hold) rfl (?_ : EvI X E_X7_hold (0, [some (.inr (.inr (some (7, 0, 0)))), some (.inl b), some (.inl n), some (.inl w)], [], M) _)
  refine seg_ok 4 (?_ : EvI X E_X7_hold (8, [some (.inr (.inr (some (7, 0, 0)))), some (.inl b), some (.inl n), some (.inl w)], [.inr (.inr (some (5, 0, 0))), .inr (.inr (some (2, 0, 0)))], M) _)
  refine ev_cl (z := z_X2_prepare) (as := [.inr (.inr (some (2, 0, 0))), .inr (.inr (some (5, 0, 0)))]) (rest := []) rfl (d_prepare ho hz hI.1.2.2.2.2.2.2.2.1) ?_
  intro rr M1 hqM1
  obtain ⟨rfl, eM1, fM1⟩ := hqM1
  have s1 : sl M1 0 = sl M 0 := FR_sl fM1 (by omega)
  have hI1 : Inv m (sl M1 0) := by rw [s1]; exact hI
  have n2 : ¬ stK 2 := by unfold stK; omega
  have x2 : M1 2 = M 2 := FR_K fM1 n2
  show EvI X E_X7_hold (11, [some (.inr (.inr (some (7, 0, 0)))), some (.inl b), some (.inl n), some (.inl w)], [], M1) _
  refine seg_ok 6 (?_ : EvI X E_X7_hold (19, [some (.inr (.inr (some (7, 0, 0)))), some (.inl b), some (.inl n), some (.inl w)], [.inl w, .inl n, .inl b, .inr (.inr (some (5, 0, 0))), .inr (.inr (some (7, 0, 0)))], M1) _)
  refine ev_cl (z := z_X5_makeHold) (as := [.inr (.inr (some (5, 0, 0))), .inl b, .inl n, .inl w]) (rest := [.inr (.inr (some (7, 0, 0)))]) rfl (d_makeHold hI1) ?_
  intro rr M2 hqM2
  obtain ⟨rfl, sM2, fM2⟩ := hqM2
  rw [s1] at sM2
  rw [s1]
  have y2 : M2 2 = M 2 := (FR_K fM2 n2).trans x2
  show EvI X E_X7_hold (22, [some (.inr (.inr (some (7, 0, 0)))), some (.inl b), some (.inl n), some (.inl w)], [.inl ((opHold (sl M 0) b n w).1), .inr (.inr (some (7, 0, 0)))], M2) _
  refine ev_cl (z := z_X7_recorded) (as := [.inr (.inr (some (7, 0, 0))), .inl ((opHold (sl M 0) b n w).1)]) (rest := []) rfl (d_recorded (by rw [y2]; exact ho) (by rw [y2]; exact hz)) ?_
  intro rr M3 hqM3
  obtain ⟨rfl, kM3⟩ := hqM3
  show EvI X E_X7_hold (25, [some (.inr (.inr (some (7, 0, 0)))), some (.inl b), some (.inl n), some (.inl w)], [.inl ((opHold (sl M 0) b n w).1)], M3) _
  refine ev_rt (r := some (.inl ((opHold (sl M 0) b n w).1))) rfl (?_)
  obtain ⟨q1, q2⟩ := actC ho hz eM1 fM1 fM2 kM3
  exact ⟨rfl, fun K i s h => (congrFun (congrFun (congrFun (q1 K h) 0) i) s).trans (congrFun (congrFun (congrFun sM2 K) i) s), q2⟩
theorem d_buy {m : Int} {M : NM} (hI : Inv m (sl M 0)) (ho : 0 ≤ M 2 0 0 1 ∧ M 2 0 0 1 ≤ 5) (hz : 0 ≤ M 2 0 0 2 ∧ M 2 0 0 2 ≤ 5) {x : Int} : HT X z_X7_buy [.inr (.inr (some (7, 0, 0))), .inl x] M (fun rr MM => rr = some (.inl (opBuy (sl M 0) x).1) ∧ (∀ K i s, stK K → MM K 0 i s = (opBuy (sl M 0) x).2 K i s) ∧ KPC (opBuy (sl M 0) x).1 M MM) := by
  refine ht_of (e := E_X7_buy) rfl (?_ : EvI X E_X7_buy (0, [some (.inr (.inr (some (7, 0, 0)))), some (.inl x)], [], M) _)
  refine seg_ok 4 (?_ : EvI X E_X7_buy (8, [some (.inr (.inr (some (7, 0, 0)))), some (.inl x)], [.inr (.inr (some (5, 0, 0))), .inr (.inr (some (2, 0, 0)))], M) _)
  refine ev_cl (z := z_X2_prepare) (as := [.inr (.inr (some (2, 0, 0))), .inr (.inr (some (5, 0, 0)))]) (rest := []) rfl (d_prepare ho hz hI.1.2.2.2.2.2.2.2.1) ?_
  intro rr M1 hqM1
  obtain ⟨rfl, eM1, fM1⟩ := hqM1
  have s1 : sl M1 0 = sl M 0 := FR_sl fM1 (by omega)
  have hI1 : Inv m (sl M1 0) := by rw [s1]; exact hI
  have n2 : ¬ stK 2 := by unfold stK; omega
  have x2 : M1 2 = M 2 := FR_K fM1 n2
  show EvI X E_X7_buy (11, [some (.inr (.inr (some (7, 0, 0)))), some (.inl x)], [], M1) _
  refine seg_ok 4 (?_ : EvI X E_X7_buy (17, [some (.inr (.inr (some (7, 0, 0)))), some (.inl x)], [.inl x, .inr (.inr (some (5, 0, 0))), .inr (.inr (some (7, 0, 0)))], M1) _)
  refine ev_cl (z := z_X5_buyHold) (as := [.inr (.inr (some (5, 0, 0))), .inl x]) (rest := [.inr (.inr (some (7, 0, 0)))]) rfl (d_buyHold hI1) ?_
  intro rr M2 hqM2
  obtain ⟨rfl, sM2, fM2⟩ := hqM2
  rw [s1] at sM2
  rw [s1]
  have y2 : M2 2 = M 2 := (FR_K fM2 n2).trans x2
  show EvI X E_X7_buy (20, [some (.inr (.inr (some (7, 0, 0)))), some (.inl x)], [.inl ((opBuy (sl M 0) x).1), .inr (.inr (some (7, 0, 0)))], M2) _
  refine ev_cl (z := z_X7_recorded) (as := [.inr (.inr (some (7, 0, 0))), .inl ((opBuy (sl M 0) x).1)]) (rest := []) rfl (d_recorded (by rw [y2]; exact ho) (by rw [y2]; exact hz)) ?_
  intro rr M3 hqM3
  obtain ⟨rfl, kM3⟩ := hqM3
  show EvI X E_X7_buy (23, [some (.inr (.inr (some (7, 0, 0)))), some (.inl x)], [.inl ((opBuy (sl M 0) x).1)], M3) _
  refine ev_rt (r := some (.inl ((opBuy (sl M 0) x).1))) rfl (?_)
  obtain ⟨q1, q2⟩ := actC ho hz eM1 fM1 fM2 kM3
  exact ⟨rfl, fun K i s h => (congrFun (congrFun (congrFun (q1 K h) 0) i) s).trans (congrFun (congrFun (congrFun sM2 K) i) s), q2⟩
theorem d_drop {m : Int} {M : NM} (hI : Inv m (sl M 0)) (ho : 0 ≤ M 2 0 0 1 ∧ M 2 0 0 1 ≤ 5) (hz : 0 ≤ M 2 0 0 2 ∧ M 2 0 0 2 ≤ 5) {x : Int} : HT X z_X7_drop [.inr (.inr (some (7, 0, 0))), .inl x] M (fun rr MM => rr = some (.inl (opDrop (sl M 0) x).1) ∧ (∀ K i s, stK K → MM K 0 i s = (opDrop (sl M 0) x).2 K i s) ∧ KPC (opDrop (sl M 0) x).1 M MM) := by
  refine ht_of (e := E_X7_drop) rfl (?_ : EvI X E_X7_drop (0, [some (.inr (.inr (some (7, 0, 0)))), some (.inl x)], [], M) _)
  refine seg_ok 4 (?_ : EvI X E_X7_drop (8, [some (.inr (.inr (some (7, 0, 0)))), some (.inl x)], [.inr (.inr (some (5, 0, 0))), .inr (.inr (some (2, 0, 0)))], M) _)
  refine ev_cl (z := z_X2_prepare) (as := [.inr (.inr (some (2, 0, 0))), .inr (.inr (some (5, 0, 0)))]) (rest := []) rfl (d_prepare ho hz hI.1.2.2.2.2.2.2.2.1) ?_
  intro rr M1 hqM1
  obtain ⟨rfl, eM1, fM1⟩ := hqM1
  have s1 : sl M1 0 = sl M 0 := FR_sl fM1 (by omega)
  have hI1 : Inv m (sl M1 0) := by rw [s1]; exact hI
  have n2 : ¬ stK 2 := by unfold stK; omega
  have x2 : M1 2 = M 2 := FR_K fM1 n2
  show EvI X E_X7_drop (11, [some (.inr (.inr (some (7, 0, 0)))), some (.inl x)], [], M1) _
  refine seg_ok 4 (?_ : EvI X E_X7_drop (17, [some (.inr (.inr (some (7, 0, 0)))), some (.inl x)], [.inl x, .inr (.inr (some (5, 0, 0))), .inr (.inr (some (7, 0, 0)))], M1) _)
  refine ev_cl (z := z_X5_dropHold) (as := [.inr (.inr (some (5, 0, 0))), .inl x]) (rest := [.inr (.inr (some (7, 0, 0)))]) rfl (d_dropHold hI1) ?_
  intro rr M2 hqM2
  obtain ⟨rfl, sM2, fM2⟩ := hqM2
  rw [s1] at sM2
  rw [s1]
  have y2 : M2 2 = M 2 := (FR_K fM2 n2).trans x2
  show EvI X E_X7_drop (20, [some (.inr (.inr (some (7, 0, 0)))), some (.inl x)], [.inl ((opDrop (sl M 0) x).1), .inr (.inr (some (7, 0, 0)))], M2) _
  refine ev_cl (z := z_X7_recorded) (as := [.inr (.inr (some (7, 0, 0))), .inl ((opDrop (sl M 0) x).1)]) (rest := []) rfl (d_recorded (by rw [y2]; exact ho) (by rw [y2]; exact hz)) ?_
  intro rr M3 hqM3
  obtain ⟨rfl, kM3⟩ := hqM3
  show EvI X E_X7_drop (23, [some (.inr (.inr (some (7, 0, 0)))), some (.inl x)], [.inl ((opDrop (sl M 0) x).1)], M3) _
  refine ev_rt (r := some (.inl ((opDrop (sl M 0) x).1))) rfl (?_)
  obtain ⟨q1, q2⟩ := actC ho hz eM1 fM1 fM2 kM3
  exact ⟨rfl, fun K i s h => (congrFun (congrFun (congrFun (q1 K h) 0) i) s).trans (congrFun (congrFun (congrFun sM2 K) i) s), q2⟩
theorem d_giveBack {m : Int} {M : NM} (hI : Inv m (sl M 0)) (ho : 0 ≤ M 2 0 0 1 ∧ M 2 0 0 1 ≤ 5) (hz : 0 ≤ M 2 0 0 2 ∧ M 2 0 0 2 ≤ 5) {x : Int} : HT X z_X7_giveBack [.inr (.inr (some (7, 0, 0))), .inl x] M (fun rr MM => rr = some (.inl (opBack (sl M 0) x).1) ∧ (∀ K i s, stK K → MM K 0 i s = (opBack (sl M 0) x).2 K i s) ∧ KPC (opBack (sl M 0) x).1 M MM) := by
  refine ht_of (e := E_X7_giveBack) rfl (?_ : EvI X E_X7_giveBack (0, [some (.inr (.inr (some (7, 0, 0)))), some (.inl x)], [], M) _)
  refine seg_ok 4 (?_ : EvI X E_X7_giveBack (8, [some (.inr (.inr (some (7, 0, 0)))), some (.inl x)], [.inr (.inr (some (5, 0, 0))), .inr (.inr (some (2, 0, 0)))], M) _)
  refine ev_cl (z := z_X2_prepare) (as := [.inr (.inr (some (2, 0, 0))), .inr (.inr (some (5, 0, 0)))]) (rest := []) rfl (d_prepare ho hz hI.1.2.2.2.2.2.2.2.1) ?_
  intro rr M1 hqM1
  obtain ⟨rfl, eM1, fM1⟩ := hqM1
  have s1 : sl M1 0 = sl M 0 := FR_sl fM1 (by omega)
  have hI1 : Inv m (sl M1 0) := by rw [s1]; exact hI
  have n2 : ¬ stK 2 := by unfold stK; omega
  have x2 : M1 2 = M 2 := FR_K fM1 n2
  show EvI X E_X7_giveBack (11, [some (.inr (.inr (some (7, 0, 0)))), some (.inl x)], [], M1) _
  refine seg_ok 4 (?_ : EvI X E_X7_giveBack (17, [some (.inr (.inr (some (7, 0, 0)))), some (.inl x)], [.inl x, .inr (.inr (some (5, 0, 0))), .inr (.inr (some (7, 0, 0)))], M1) _)
  refine ev_cl (z := z_X5_returnTicket) (as := [.inr (.inr (some (5, 0, 0))), .inl x]) (rest := [.inr (.inr (some (7, 0, 0)))]) rfl (d_returnTicket hI1) ?_
  intro rr M2 hqM2
  obtain ⟨rfl, sM2, fM2⟩ := hqM2
  rw [s1] at sM2
  rw [s1]
  have y2 : M2 2 = M 2 := (FR_K fM2 n2).trans x2
  show EvI X E_X7_giveBack (20, [some (.inr (.inr (some (7, 0, 0)))), some (.inl x)], [.inl ((opBack (sl M 0) x).1), .inr (.inr (some (7, 0, 0)))], M2) _
  refine ev_cl (z := z_X7_recorded) (as := [.inr (.inr (some (7, 0, 0))), .inl ((opBack (sl M 0) x).1)]) (rest := []) rfl (d_recorded (by rw [y2]; exact ho) (by rw [y2]; exact hz)) ?_
  intro rr M3 hqM3
  obtain ⟨rfl, kM3⟩ := hqM3
  show EvI X E_X7_giveBack (23, [some (.inr (.inr (some (7, 0, 0)))), some (.inl x)], [.inl ((opBack (sl M 0) x).1)], M3) _
  refine ev_rt (r := some (.inl ((opBack (sl M 0) x).1))) rfl (?_)
  obtain ⟨q1, q2⟩ := actC ho hz eM1 fM1 fM2 kM3
  exact ⟨rfl, fun K i s h => (congrFun (congrFun (congrFun (q1 K h) 0) i) s).trans (congrFun (congrFun (congrFun sM2 K) i) s), q2⟩
theorem d_comeIn {m : Int} {M : NM} (hI : Inv m (sl M 0)) (ho : 0 ≤ M 2 0 0 1 ∧ M 2 0 0 1 ≤ 5) (hz : 0 ≤ M 2 0 0 2 ∧ M 2 0 0 2 ≤ 5) (hm : m + 1 ≤ 62000) {x : Int} : HT X z_X7_comeIn [.inr (.inr (some (7, 0, 0))), .inl x] M (fun rr MM => rr = some (.inl (opIn (sl M 0) x).1) ∧ (∀ K i s, stK K → MM K 0 i s = (opIn (sl M 0) x).2 K i s) ∧ KPC (opIn (sl M 0) x).1 M MM) := by
  refine ht_of (e := E_X7_comeIn) rfl (?_ : EvI X E_X7_comeIn (0, [some (.inr (.inr (some (7, 0, 0)))), some (.inl x)], [], M) _)
  refine seg_ok 4 (?_ : EvI X E_X7_comeIn (8, [some (.inr (.inr (some (7, 0, 0)))), some (.inl x)], [.inr (.inr (some (5, 0, 0))), .inr (.inr (some (2, 0, 0)))], M) _)
  refine ev_cl (z := z_X2_prepare) (as := [.inr (.inr (some (2, 0, 0))), .inr (.inr (some (5, 0, 0)))]) (rest := []) rfl (d_prepare ho hz hI.1.2.2.2.2.2.2.2.1) ?_
  intro rr M1 hqM1
  obtain ⟨rfl, eM1, fM1⟩ := hqM1
  have s1 : sl M1 0 = sl M 0 := FR_sl fM1 (by omega)
  have hI1 : Inv m (sl M1 0) := by rw [s1]; exact hI
  have n2 : ¬ stK 2 := by unfold stK; omega
  have x2 : M1 2 = M 2 := FR_K fM1 n2
  show EvI X E_X7_comeIn (11, [some (.inr (.inr (some (7, 0, 0)))), some (.inl x)], [], M1) _
  refine seg_ok 4 (?_ : EvI X E_X7_comeIn (17, [some (.inr (.inr (some (7, 0, 0)))), some (.inl x)], [.inl x, .inr (.inr (some (5, 0, 0))), .inr (.inr (some (7, 0, 0)))], M1) _)
  refine ev_cl (z := z_X5_admit) (as := [.inr (.inr (some (5, 0, 0))), .inl x]) (rest := [.inr (.inr (some (7, 0, 0)))]) rfl (d_admit hI1 hm) ?_
  intro rr M2 hqM2
  obtain ⟨rfl, sM2, fM2⟩ := hqM2
  rw [s1] at sM2
  rw [s1]
  have y2 : M2 2 = M 2 := (FR_K fM2 n2).trans x2
  show EvI X E_X7_comeIn (20, [some (.inr (.inr (some (7, 0, 0)))), some (.inl x)], [.inl ((opIn (sl M 0) x).1), .inr (.inr (some (7, 0, 0)))], M2) _
  refine ev_cl (z := z_X7_recorded) (as := [.inr (.inr (some (7, 0, 0))), .inl ((opIn (sl M 0) x).1)]) (rest := []) rfl (d_recorded (by rw [y2]; exact ho) (by rw [y2]; exact hz)) ?_
  intro rr M3 hqM3
  obtain ⟨rfl, kM3⟩ := hqM3
  show EvI X E_X7_comeIn (23, [some (.inr (.inr (some (7, 0, 0)))), some (.inl x)], [.inl ((opIn (sl M 0) x).1)], M3) _
  refine ev_rt (r := some (.inl ((opIn (sl M 0) x).1))) rfl (?_)
  obtain ⟨q1, q2⟩ := actC ho hz eM1 fM1 fM2 kM3
  exact ⟨rfl, fun K i s h => (congrFun (congrFun (congrFun (q1 K h) 0) i) s).trans (congrFun (congrFun (congrFun sM2 K) i) s), q2⟩
theorem d_upgrade {m : Int} {M : NM} (hI : Inv m (sl M 0)) (ho : 0 ≤ M 2 0 0 1 ∧ M 2 0 0 1 ≤ 5) (hz : 0 ≤ M 2 0 0 2 ∧ M 2 0 0 2 ≤ 5) (hm : m + 20 ≤ 62000) {x : Int} : HT X z_X7_upgrade [.inr (.inr (some (7, 0, 0))), .inl x] M (fun rr MM => rr = some (.inl (opUpg (sl M 0) x).1) ∧ (∀ K i s, stK K → MM K 0 i s = (opUpg (sl M 0) x).2 K i s) ∧ KPC (opUpg (sl M 0) x).1 M MM) := by
  refine ht_of (e := E_X7_upgrade) rfl (?_ : EvI X E_X7_upgrade (0, [some (.inr (.inr (some (7, 0, 0)))), some (.inl x)], [], M) _)
  refine seg_ok 4 (?_ : EvI X E_X7_upgrade (8, [some (.inr (.inr (some (7, 0, 0)))), some (.inl x)], [.inr (.inr (some (5, 0, 0))), .inr (.inr (some (2, 0, 0)))], M) _)
  refine ev_cl (z := z_X2_prepare) (as := [.inr (.inr (some (2, 0, 0))), .inr (.inr (some (5, 0, 0)))]) (rest := []) rfl (d_prepare ho hz hI.1.2.2.2.2.2.2.2.1) ?_
  intro rr M1 hqM1
  obtain ⟨rfl, eM1, fM1⟩ := hqM1
  have s1 : sl M1 0 = sl M 0 := FR_sl fM1 (by omega)
  have hI1 : Inv m (sl M1 0) := by rw [s1]; exact hI
  have n2 : ¬ stK 2 := by unfold stK; omega
  have x2 : M1 2 = M 2 := FR_K fM1 n2
  show EvI X E_X7_upgrade (11, [some (.inr (.inr (some (7, 0, 0)))), some (.inl x)], [], M1) _
  refine seg_ok 4 (?_ : EvI X E_X7_upgrade (17, [some (.inr (.inr (some (7, 0, 0)))), some (.inl x)], [.inl x, .inr (.inr (some (5, 0, 0))), .inr (.inr (some (7, 0, 0)))], M1) _)
  refine ev_cl (z := z_X5_upgradeTicket) (as := [.inr (.inr (some (5, 0, 0))), .inl x]) (rest := [.inr (.inr (some (7, 0, 0)))]) rfl (d_upgradeTicket hI1 hm) ?_
  intro rr M2 hqM2
  obtain ⟨rfl, sM2, fM2⟩ := hqM2
  rw [s1] at sM2
  rw [s1]
  have y2 : M2 2 = M 2 := (FR_K fM2 n2).trans x2
  show EvI X E_X7_upgrade (20, [some (.inr (.inr (some (7, 0, 0)))), some (.inl x)], [.inl ((opUpg (sl M 0) x).1), .inr (.inr (some (7, 0, 0)))], M2) _
  refine ev_cl (z := z_X7_recorded) (as := [.inr (.inr (some (7, 0, 0))), .inl ((opUpg (sl M 0) x).1)]) (rest := []) rfl (d_recorded (by rw [y2]; exact ho) (by rw [y2]; exact hz)) ?_
  intro rr M3 hqM3
  obtain ⟨rfl, kM3⟩ := hqM3
  show EvI X E_X7_upgrade (23, [some (.inr (.inr (some (7, 0, 0)))), some (.inl x)], [.inl ((opUpg (sl M 0) x).1)], M3) _
  refine ev_rt (r := some (.inl ((opUpg (sl M 0) x).1))) rfl (?_)
  obtain ⟨q1, q2⟩ := actC ho hz eM1 fM1 fM2 kM3
  exact ⟨rfl, fun K i s h => (congrFun (congrFun (congrFun (q1 K h) 0) i) s).trans (congrFun (congrFun (congrFun sM2 K) i) s), q2⟩
theorem d_pass {m : Int} {M : NM} (hI : Inv m (sl M 0)) (ho : 0 ≤ M 2 0 0 1 ∧ M 2 0 0 1 ≤ 5) (hz : 0 ≤ M 2 0 0 2 ∧ M 2 0 0 2 ≤ 5) {x : Int} : HT X z_X7_pass [.inr (.inr (some (7, 0, 0))), .inl x] M (fun rr MM => rr = some (.inl (opPass (sl M 0) x).1) ∧ (∀ K i s, stK K → MM K 0 i s = (opPass (sl M 0) x).2 K i s) ∧ KPC (opPass (sl M 0) x).1 M MM) := by
  refine ht_of (e := E_X7_pass) rfl (?_ : EvI X E_X7_pass (0, [some (.inr (.inr (some (7, 0, 0)))), some (.inl x)], [], M) _)
  refine seg_ok 4 (?_ : EvI X E_X7_pass (8, [some (.inr (.inr (some (7, 0, 0)))), some (.inl x)], [.inr (.inr (some (5, 0, 0))), .inr (.inr (some (2, 0, 0)))], M) _)
  refine ev_cl (z := z_X2_prepare) (as := [.inr (.inr (some (2, 0, 0))), .inr (.inr (some (5, 0, 0)))]) (rest := []) rfl (d_prepare ho hz hI.1.2.2.2.2.2.2.2.1) ?_
  intro rr M1 hqM1
  obtain ⟨rfl, eM1, fM1⟩ := hqM1
  have s1 : sl M1 0 = sl M 0 := FR_sl fM1 (by omega)
  have hI1 : Inv m (sl M1 0) := by rw [s1]; exact hI
  have n2 : ¬ stK 2 := by unfold stK; omega
  have x2 : M1 2 = M 2 := FR_K fM1 n2
  show EvI X E_X7_pass (11, [some (.inr (.inr (some (7, 0, 0)))), some (.inl x)], [], M1) _
  refine seg_ok 4 (?_ : EvI X E_X7_pass (17, [some (.inr (.inr (some (7, 0, 0)))), some (.inl x)], [.inl x, .inr (.inr (some (5, 0, 0))), .inr (.inr (some (7, 0, 0)))], M1) _)
  refine ev_cl (z := z_X5_letPass) (as := [.inr (.inr (some (5, 0, 0))), .inl x]) (rest := [.inr (.inr (some (7, 0, 0)))]) rfl (d_letPass hI1) ?_
  intro rr M2 hqM2
  obtain ⟨rfl, sM2, fM2⟩ := hqM2
  rw [s1] at sM2
  rw [s1]
  have y2 : M2 2 = M 2 := (FR_K fM2 n2).trans x2
  show EvI X E_X7_pass (20, [some (.inr (.inr (some (7, 0, 0)))), some (.inl x)], [.inl ((opPass (sl M 0) x).1), .inr (.inr (some (7, 0, 0)))], M2) _
  refine ev_cl (z := z_X7_recorded) (as := [.inr (.inr (some (7, 0, 0))), .inl ((opPass (sl M 0) x).1)]) (rest := []) rfl (d_recorded (by rw [y2]; exact ho) (by rw [y2]; exact hz)) ?_
  intro rr M3 hqM3
  obtain ⟨rfl, kM3⟩ := hqM3
  show EvI X E_X7_pass (23, [some (.inr (.inr (some (7, 0, 0)))), some (.inl x)], [.inl ((opPass (sl M 0) x).1)], M3) _
  refine ev_rt (r := some (.inl ((opPass (sl M 0) x).1))) rfl (?_)
  obtain ⟨q1, q2⟩ := actC ho hz eM1 fM1 fM2 kM3
  exact ⟨rfl, fun K i s h => (congrFun (congrFun (congrFun (q1 K h) 0) i) s).trans (congrFun (congrFun (congrFun sM2 K) i) s), q2⟩
theorem d_closeDoors {m : Int} {M : NM} (hI : Inv m (sl M 0)) (ho : 0 ≤ M 2 0 0 1 ∧ M 2 0 0 1 ≤ 5) (hz : 0 ≤ M 2 0 0 2 ∧ M 2 0 0 2 ≤ 5)  : HT X z_X7_closeDoors [.inr (.inr (some (7, 0, 0)))] M (fun rr MM => rr = some (.inl (opClose (sl M 0)).1) ∧ (∀ K i s, stK K → MM K 0 i s = (opClose (sl M 0)).2 K i s) ∧ KPC (opClose (sl M 0)).1 M MM) := by
  refine ht_of (e := E_X7_closeDoors) rfl (?_ : EvI X E_X7_closeDoors (0, [some (.inr (.inr (some (7, 0, 0))))], [], M) _)
  refine seg_ok 4 (?_ : EvI X E_X7_closeDoors (8, [some (.inr (.inr (some (7, 0, 0))))], [.inr (.inr (some (5, 0, 0))), .inr (.inr (some (2, 0, 0)))], M) _)
  refine ev_cl (z := z_X2_prepare) (as := [.inr (.inr (some (2, 0, 0))), .inr (.inr (some (5, 0, 0)))]) (rest := []) rfl (d_prepare ho hz hI.1.2.2.2.2.2.2.2.1) ?_
  intro rr M1 hqM1
  obtain ⟨rfl, eM1, fM1⟩ := hqM1
  have s1 : sl M1 0 = sl M 0 := FR_sl fM1 (by omega)
  have hI1 : Inv m (sl M1 0) := by rw [s1]; exact hI
  have n2 : ¬ stK 2 := by unfold stK; omega
  have x2 : M1 2 = M 2 := FR_K fM1 n2
  show EvI X E_X7_closeDoors (11, [some (.inr (.inr (some (7, 0, 0))))], [], M1) _
  refine seg_ok 3 (?_ : EvI X E_X7_closeDoors (16, [some (.inr (.inr (some (7, 0, 0))))], [.inr (.inr (some (5, 0, 0))), .inr (.inr (some (7, 0, 0)))], M1) _)
  refine ev_cl (z := z_X5_shutDoors) (as := [.inr (.inr (some (5, 0, 0)))]) (rest := [.inr (.inr (some (7, 0, 0)))]) rfl (d_shutDoors hI1) ?_
  intro rr M2 hqM2
  obtain ⟨rfl, sM2, fM2⟩ := hqM2
  rw [s1] at sM2
  rw [s1]
  have y2 : M2 2 = M 2 := (FR_K fM2 n2).trans x2
  show EvI X E_X7_closeDoors (19, [some (.inr (.inr (some (7, 0, 0))))], [.inl ((opClose (sl M 0)).1), .inr (.inr (some (7, 0, 0)))], M2) _
  refine ev_cl (z := z_X7_recorded) (as := [.inr (.inr (some (7, 0, 0))), .inl ((opClose (sl M 0)).1)]) (rest := []) rfl (d_recorded (by rw [y2]; exact ho) (by rw [y2]; exact hz)) ?_
  intro rr M3 hqM3
  obtain ⟨rfl, kM3⟩ := hqM3
  show EvI X E_X7_closeDoors (22, [some (.inr (.inr (some (7, 0, 0))))], [.inl ((opClose (sl M 0)).1)], M3) _
  refine ev_rt (r := some (.inl ((opClose (sl M 0)).1))) rfl (?_)
  obtain ⟨q1, q2⟩ := actC ho hz eM1 fM1 fM2 kM3
  exact ⟨rfl, fun K i s h => (congrFun (congrFun (congrFun (q1 K h) 0) i) s).trans (congrFun (congrFun (congrFun sM2 K) i) s), q2⟩
end
