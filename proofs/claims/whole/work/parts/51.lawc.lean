/-! 51: the law, a call at a time -/
section
variable {X : XI}
set_option maxRecDepth 20000 in
theorem lw_c0 {Q : Option U → NM → Prop} {m i : Int} {M : NM} (h : Wld m M) (hm : m + 120 ≤ 62000) (hi : 0 ≤ i ∧ i + 4 ≤ X.1) (hX : X.1 ≤ 2048) (J817 : ∀ M2 : NM, Wld (m + 120) M2 → EvI X E_L_law (817, [some (.inr (.inr (some (30, 0, 0)))), some (.inr (.inr (some (7, 0, 0)))), some (.inr (.inr (some (8, 0, 0)))), some (.inl i)], [], M2) Q) : EvI X E_L_law (156, [some (.inr (.inr (some (30, 0, 0)))), some (.inr (.inr (some (7, 0, 0)))), some (.inr (.inr (some (8, 0, 0)))), some (.inl i)], [], M) Q := by
  refine seg_ok 16 (⟨by omega, by omega, by omega, by omega, by omega, by omega, ?_⟩ : ((-2147483648 : Int) ≤ (i + 1) ∧ (i + 1) < 2147483648) ∧ ((0 : Int) ≤ (i + 1) ∧ (i + 1) < X.1) ∧ ((-2147483648 : Int) ≤ (i + 2) ∧ (i + 2) < 2147483648) ∧ ((0 : Int) ≤ (i + 2) ∧ (i + 2) < X.1) ∧ ((-2147483648 : Int) ≤ (i + 3) ∧ (i + 3) < 2147483648) ∧ ((0 : Int) ≤ (i + 3) ∧ (i + 3) < X.1) ∧ EvI X E_L_law (172, [some (.inr (.inr (some (30, 0, 0)))), some (.inr (.inr (some (7, 0, 0)))), some (.inr (.inr (some (8, 0, 0)))), some (.inl i)], [.inl (X.2 (i + 3)), .inl (X.2 (i + 2)), .inl (X.2 (i + 1)), .inr (.inr (some (7, 0, 0)))], M) _)
  refine ev_cl (z := z_X7_addBlock) (as := [.inr (.inr (some (7, 0, 0))), .inl (X.2 (i + 1)), .inl (X.2 (i + 2)), .inl (X.2 (i + 3))]) (rest := []) rfl (d_addBlock h.1.1 h.2.1.1 h.2.1.2.1) ?_
  intro rr M1 hq
  obtain ⟨rfl, e1, kc⟩ := hq
  obtain ⟨fW, fS, fA⟩ := ref_op h kc
  show EvI X E_L_law (175, [some (.inr (.inr (some (30, 0, 0)))), some (.inr (.inr (some (7, 0, 0)))), some (.inr (.inr (some (8, 0, 0)))), some (.inl i)], [.inl ((opBlock (sl M 0) (X.2 (i + 1)) (X.2 (i + 2)) (X.2 (i + 3))).1)], M1) _
  refine seg_ok 16 (⟨by omega, by omega, by omega, by omega, by omega, by omega, ?_⟩ : ((-2147483648 : Int) ≤ (i + 1) ∧ (i + 1) < 2147483648) ∧ ((0 : Int) ≤ (i + 1) ∧ (i + 1) < X.1) ∧ ((-2147483648 : Int) ≤ (i + 2) ∧ (i + 2) < 2147483648) ∧ ((0 : Int) ≤ (i + 2) ∧ (i + 2) < X.1) ∧ ((-2147483648 : Int) ≤ (i + 3) ∧ (i + 3) < 2147483648) ∧ ((0 : Int) ≤ (i + 3) ∧ (i + 3) < X.1) ∧ EvI X E_L_law (191, [some (.inr (.inr (some (30, 0, 0)))), some (.inr (.inr (some (7, 0, 0)))), some (.inr (.inr (some (8, 0, 0)))), some (.inl i)], [.inl (X.2 (i + 3)), .inl (X.2 (i + 2)), .inl (X.2 (i + 1)), .inr (.inr (some (8, 0, 0))), .inl ((opBlock (sl M 0) (X.2 (i + 1)) (X.2 (i + 2)) (X.2 (i + 3))).1)], M1) _)
  refine ev_cl (z := z_X8_addBlock) (as := [.inr (.inr (some (8, 0, 0))), .inl (X.2 (i + 1)), .inl (X.2 (i + 2)), .inl (X.2 (i + 3))]) (rest := [.inl ((opBlock (sl M 0) (X.2 (i + 1)) (X.2 (i + 2)) (X.2 (i + 3))).1)]) rfl (c_addBlock fW fS fA) ?_
  intro rr M2 hq
  obtain ⟨rfl, r1, r2, kt⟩ := hq
  show EvI X E_L_law (194, [some (.inr (.inr (some (30, 0, 0)))), some (.inr (.inr (some (7, 0, 0)))), some (.inr (.inr (some (8, 0, 0)))), some (.inl i)], [.inl ((opBlock (sl M 0) (X.2 (i + 1)) (X.2 (i + 2)) (X.2 (i + 3))).1), .inl ((opBlock (sl M 0) (X.2 (i + 1)) (X.2 (i + 2)) (X.2 (i + 3))).1)], M2) _
  refine seg_ok 1 (?_ : EvI X E_L_law (if (opBlock (sl M 0) (X.2 (i + 1)) (X.2 (i + 2)) (X.2 (i + 3))).1 = (opBlock (sl M 0) (X.2 (i + 1)) (X.2 (i + 2)) (X.2 (i + 3))).1 then 817 else 197, [some (.inr (.inr (some (30, 0, 0)))), some (.inr (.inr (some (7, 0, 0)))), some (.inr (.inr (some (8, 0, 0)))), some (.inl i)], [], M2) _)
  refine ev_if (fun h194 => ?_) (fun h194 => ?_)
  · exact J817 M2 (step_op h (by omega) hm (Inv_up1 (io_block h.1.1 (by omega)) (by omega) hm) e1 kc r1 r2 kt)
  · exact absurd rfl h194
set_option maxRecDepth 20000 in
theorem lw_c1 {Q : Option U → NM → Prop} {m i : Int} {M : NM} (h : Wld m M) (hm : m + 120 ≤ 62000) (hi : 0 ≤ i ∧ i + 4 ≤ X.1) (hX : X.1 ≤ 2048) (J817 : ∀ M2 : NM, Wld (m + 120) M2 → EvI X E_L_law (817, [some (.inr (.inr (some (30, 0, 0)))), some (.inr (.inr (some (7, 0, 0)))), some (.inr (.inr (some (8, 0, 0)))), some (.inl i)], [], M2) Q) : EvI X E_L_law (199, [some (.inr (.inr (some (30, 0, 0)))), some (.inr (.inr (some (7, 0, 0)))), some (.inr (.inr (some (8, 0, 0)))), some (.inl i)], [], M) Q := by
  refine seg_ok 1 (?_ : EvI X E_L_law (200, [some (.inr (.inr (some (30, 0, 0)))), some (.inr (.inr (some (7, 0, 0)))), some (.inr (.inr (some (8, 0, 0)))), some (.inl i)], [.inr (.inr (some (7, 0, 0)))], M) _)
  refine ev_cl (z := z_X7_addStage) (as := [.inr (.inr (some (7, 0, 0)))]) (rest := []) rfl (d_addStage h.1.1 h.2.1.1 h.2.1.2.1) ?_
  intro rr M1 hq
  obtain ⟨rfl, e1, kc⟩ := hq
  obtain ⟨fW, fS, fA⟩ := ref_op h kc
  show EvI X E_L_law (203, [some (.inr (.inr (some (30, 0, 0)))), some (.inr (.inr (some (7, 0, 0)))), some (.inr (.inr (some (8, 0, 0)))), some (.inl i)], [.inl ((opStage (sl M 0)).1)], M1) _
  refine seg_ok 1 (?_ : EvI X E_L_law (204, [some (.inr (.inr (some (30, 0, 0)))), some (.inr (.inr (some (7, 0, 0)))), some (.inr (.inr (some (8, 0, 0)))), some (.inl i)], [.inr (.inr (some (8, 0, 0))), .inl ((opStage (sl M 0)).1)], M1) _)
  refine ev_cl (z := z_X8_addStage) (as := [.inr (.inr (some (8, 0, 0)))]) (rest := [.inl ((opStage (sl M 0)).1)]) rfl (c_addStage fW fS fA) ?_
  intro rr M2 hq
  obtain ⟨rfl, r1, r2, kt⟩ := hq
  show EvI X E_L_law (207, [some (.inr (.inr (some (30, 0, 0)))), some (.inr (.inr (some (7, 0, 0)))), some (.inr (.inr (some (8, 0, 0)))), some (.inl i)], [.inl ((opStage (sl M 0)).1), .inl ((opStage (sl M 0)).1)], M2) _
  refine seg_ok 1 (?_ : EvI X E_L_law (if (opStage (sl M 0)).1 = (opStage (sl M 0)).1 then 817 else 210, [some (.inr (.inr (some (30, 0, 0)))), some (.inr (.inr (some (7, 0, 0)))), some (.inr (.inr (some (8, 0, 0)))), some (.inl i)], [], M2) _)
  refine ev_if (fun h207 => ?_) (fun h207 => ?_)
  · exact J817 M2 (step_op h (by omega) hm (Inv_up1 (io_stage h.1.1 (by omega)) (by omega) hm) e1 kc r1 r2 kt)
  · exact absurd rfl h207
set_option maxRecDepth 20000 in
theorem lw_c2 {Q : Option U → NM → Prop} {m i : Int} {M : NM} (h : Wld m M) (hm : m + 120 ≤ 62000) (hi : 0 ≤ i ∧ i + 4 ≤ X.1) (hX : X.1 ≤ 2048) (J817 : ∀ M2 : NM, Wld (m + 120) M2 → EvI X E_L_law (817, [some (.inr (.inr (some (30, 0, 0)))), some (.inr (.inr (some (7, 0, 0)))), some (.inr (.inr (some (8, 0, 0)))), some (.inl i)], [], M2) Q) : EvI X E_L_law (212, [some (.inr (.inr (some (30, 0, 0)))), some (.inr (.inr (some (7, 0, 0)))), some (.inr (.inr (some (8, 0, 0)))), some (.inl i)], [], M) Q := by
  refine seg_ok 16 (⟨by omega, by omega, by omega, by omega, by omega, by omega, ?_⟩ : ((-2147483648 : Int) ≤ (i + 1) ∧ (i + 1) < 2147483648) ∧ ((0 : Int) ≤ (i + 1) ∧ (i + 1) < X.1) ∧ ((-2147483648 : Int) ≤ (i + 2) ∧ (i + 2) < 2147483648) ∧ ((0 : Int) ≤ (i + 2) ∧ (i + 2) < X.1) ∧ ((-2147483648 : Int) ≤ (i + 3) ∧ (i + 3) < 2147483648) ∧ ((0 : Int) ≤ (i + 3) ∧ (i + 3) < X.1) ∧ EvI X E_L_law (228, [some (.inr (.inr (some (30, 0, 0)))), some (.inr (.inr (some (7, 0, 0)))), some (.inr (.inr (some (8, 0, 0)))), some (.inl i)], [.inl (X.2 (i + 3)), .inl (X.2 (i + 2)), .inl (X.2 (i + 1)), .inr (.inr (some (7, 0, 0)))], M) _)
  refine ev_cl (z := z_X7_addPiece) (as := [.inr (.inr (some (7, 0, 0))), .inl (X.2 (i + 1)), .inl (X.2 (i + 2)), .inl (X.2 (i + 3))]) (rest := []) rfl (d_addPiece h.1.1 h.2.1.1 h.2.1.2.1) ?_
  intro rr M1 hq
  obtain ⟨rfl, e1, kc⟩ := hq
  obtain ⟨fW, fS, fA⟩ := ref_op h kc
  show EvI X E_L_law (231, [some (.inr (.inr (some (30, 0, 0)))), some (.inr (.inr (some (7, 0, 0)))), some (.inr (.inr (some (8, 0, 0)))), some (.inl i)], [.inl ((opPiece (sl M 0) (X.2 (i + 1)) (X.2 (i + 2)) (X.2 (i + 3))).1)], M1) _
  refine seg_ok 16 (⟨by omega, by omega, by omega, by omega, by omega, by omega, ?_⟩ : ((-2147483648 : Int) ≤ (i + 1) ∧ (i + 1) < 2147483648) ∧ ((0 : Int) ≤ (i + 1) ∧ (i + 1) < X.1) ∧ ((-2147483648 : Int) ≤ (i + 2) ∧ (i + 2) < 2147483648) ∧ ((0 : Int) ≤ (i + 2) ∧ (i + 2) < X.1) ∧ ((-2147483648 : Int) ≤ (i + 3) ∧ (i + 3) < 2147483648) ∧ ((0 : Int) ≤ (i + 3) ∧ (i + 3) < X.1) ∧ EvI X E_L_law (247, [some (.inr (.inr (some (30, 0, 0)))), some (.inr (.inr (some (7, 0, 0)))), some (.inr (.inr (some (8, 0, 0)))), some (.inl i)], [.inl (X.2 (i + 3)), .inl (X.2 (i + 2)), .inl (X.2 (i + 1)), .inr (.inr (some (8, 0, 0))), .inl ((opPiece (sl M 0) (X.2 (i + 1)) (X.2 (i + 2)) (X.2 (i + 3))).1)], M1) _)
  refine ev_cl (z := z_X8_addPiece) (as := [.inr (.inr (some (8, 0, 0))), .inl (X.2 (i + 1)), .inl (X.2 (i + 2)), .inl (X.2 (i + 3))]) (rest := [.inl ((opPiece (sl M 0) (X.2 (i + 1)) (X.2 (i + 2)) (X.2 (i + 3))).1)]) rfl (c_addPiece fW fS fA) ?_
  intro rr M2 hq
  obtain ⟨rfl, r1, r2, kt⟩ := hq
  show EvI X E_L_law (250, [some (.inr (.inr (some (30, 0, 0)))), some (.inr (.inr (some (7, 0, 0)))), some (.inr (.inr (some (8, 0, 0)))), some (.inl i)], [.inl ((opPiece (sl M 0) (X.2 (i + 1)) (X.2 (i + 2)) (X.2 (i + 3))).1), .inl ((opPiece (sl M 0) (X.2 (i + 1)) (X.2 (i + 2)) (X.2 (i + 3))).1)], M2) _
  refine seg_ok 1 (?_ : EvI X E_L_law (if (opPiece (sl M 0) (X.2 (i + 1)) (X.2 (i + 2)) (X.2 (i + 3))).1 = (opPiece (sl M 0) (X.2 (i + 1)) (X.2 (i + 2)) (X.2 (i + 3))).1 then 817 else 253, [some (.inr (.inr (some (30, 0, 0)))), some (.inr (.inr (some (7, 0, 0)))), some (.inr (.inr (some (8, 0, 0)))), some (.inl i)], [], M2) _)
  refine ev_if (fun h250 => ?_) (fun h250 => ?_)
  · exact J817 M2 (step_op h (by omega) hm (Inv_up1 (io_piece h.1.1 (by omega)) (by omega) hm) e1 kc r1 r2 kt)
  · exact absurd rfl h250
set_option maxRecDepth 20000 in
theorem lw_c3 {Q : Option U → NM → Prop} {m i : Int} {M : NM} (h : Wld m M) (hm : m + 120 ≤ 62000) (hi : 0 ≤ i ∧ i + 4 ≤ X.1) (hX : X.1 ≤ 2048) (J817 : ∀ M2 : NM, Wld (m + 120) M2 → EvI X E_L_law (817, [some (.inr (.inr (some (30, 0, 0)))), some (.inr (.inr (some (7, 0, 0)))), some (.inr (.inr (some (8, 0, 0)))), some (.inl i)], [], M2) Q) : EvI X E_L_law (255, [some (.inr (.inr (some (30, 0, 0)))), some (.inr (.inr (some (7, 0, 0)))), some (.inr (.inr (some (8, 0, 0)))), some (.inl i)], [], M) Q := by
  refine seg_ok 6 (⟨by omega, by omega, ?_⟩ : ((-2147483648 : Int) ≤ (i + 1) ∧ (i + 1) < 2147483648) ∧ ((0 : Int) ≤ (i + 1) ∧ (i + 1) < X.1) ∧ EvI X E_L_law (261, [some (.inr (.inr (some (30, 0, 0)))), some (.inr (.inr (some (7, 0, 0)))), some (.inr (.inr (some (8, 0, 0)))), some (.inl i)], [.inl (X.2 (i + 1)), .inr (.inr (some (7, 0, 0)))], M) _)
  refine ev_cl (z := z_X7_putUp) (as := [.inr (.inr (some (7, 0, 0))), .inl (X.2 (i + 1))]) (rest := []) rfl (d_putUp h.1.1 h.2.1.1 h.2.1.2.1) ?_
  intro rr M1 hq
  obtain ⟨rfl, e1, kc⟩ := hq
  obtain ⟨fW, fS, fA⟩ := ref_op h kc
  show EvI X E_L_law (264, [some (.inr (.inr (some (30, 0, 0)))), some (.inr (.inr (some (7, 0, 0)))), some (.inr (.inr (some (8, 0, 0)))), some (.inl i)], [.inl ((opUp (sl M 0) (X.2 (i + 1))).1)], M1) _
  refine seg_ok 6 (⟨by omega, by omega, ?_⟩ : ((-2147483648 : Int) ≤ (i + 1) ∧ (i + 1) < 2147483648) ∧ ((0 : Int) ≤ (i + 1) ∧ (i + 1) < X.1) ∧ EvI X E_L_law (270, [some (.inr (.inr (some (30, 0, 0)))), some (.inr (.inr (some (7, 0, 0)))), some (.inr (.inr (some (8, 0, 0)))), some (.inl i)], [.inl (X.2 (i + 1)), .inr (.inr (some (8, 0, 0))), .inl ((opUp (sl M 0) (X.2 (i + 1))).1)], M1) _)
  refine ev_cl (z := z_X8_putUp) (as := [.inr (.inr (some (8, 0, 0))), .inl (X.2 (i + 1))]) (rest := [.inl ((opUp (sl M 0) (X.2 (i + 1))).1)]) rfl (c_putUp fW fS fA) ?_
  intro rr M2 hq
  obtain ⟨rfl, r1, r2, kt⟩ := hq
  show EvI X E_L_law (273, [some (.inr (.inr (some (30, 0, 0)))), some (.inr (.inr (some (7, 0, 0)))), some (.inr (.inr (some (8, 0, 0)))), some (.inl i)], [.inl ((opUp (sl M 0) (X.2 (i + 1))).1), .inl ((opUp (sl M 0) (X.2 (i + 1))).1)], M2) _
  refine seg_ok 1 (?_ : EvI X E_L_law (if (opUp (sl M 0) (X.2 (i + 1))).1 = (opUp (sl M 0) (X.2 (i + 1))).1 then 817 else 276, [some (.inr (.inr (some (30, 0, 0)))), some (.inr (.inr (some (7, 0, 0)))), some (.inr (.inr (some (8, 0, 0)))), some (.inl i)], [], M2) _)
  refine ev_if (fun h273 => ?_) (fun h273 => ?_)
  · exact J817 M2 (step_op h (by omega) hm (Inv_up1 (io_up h.1.1 (by omega)) (by omega) hm) e1 kc r1 r2 kt)
  · exact absurd rfl h273
set_option maxRecDepth 20000 in
theorem lw_c4 {Q : Option U → NM → Prop} {m i : Int} {M : NM} (h : Wld m M) (hm : m + 120 ≤ 62000) (hi : 0 ≤ i ∧ i + 4 ≤ X.1) (hX : X.1 ≤ 2048) (J817 : ∀ M2 : NM, Wld (m + 120) M2 → EvI X E_L_law (817, [some (.inr (.inr (some (30, 0, 0)))), some (.inr (.inr (some (7, 0, 0)))), some (.inr (.inr (some (8, 0, 0)))), some (.inl i)], [], M2) Q) : EvI X E_L_law (278, [some (.inr (.inr (some (30, 0, 0)))), some (.inr (.inr (some (7, 0, 0)))), some (.inr (.inr (some (8, 0, 0)))), some (.inl i)], [], M) Q := by
  refine seg_ok 6 (⟨by omega, by omega, ?_⟩ : ((-2147483648 : Int) ≤ (i + 1) ∧ (i + 1) < 2147483648) ∧ ((0 : Int) ≤ (i + 1) ∧ (i + 1) < X.1) ∧ EvI X E_L_law (284, [some (.inr (.inr (some (30, 0, 0)))), some (.inr (.inr (some (7, 0, 0)))), some (.inr (.inr (some (8, 0, 0)))), some (.inl i)], [.inl (X.2 (i + 1)), .inr (.inr (some (7, 0, 0)))], M) _)
  refine ev_cl (z := z_X7_takeDown) (as := [.inr (.inr (some (7, 0, 0))), .inl (X.2 (i + 1))]) (rest := []) rfl (d_takeDown h.1.1 h.2.1.1 h.2.1.2.1) ?_
  intro rr M1 hq
  obtain ⟨rfl, e1, kc⟩ := hq
  obtain ⟨fW, fS, fA⟩ := ref_op h kc
  show EvI X E_L_law (287, [some (.inr (.inr (some (30, 0, 0)))), some (.inr (.inr (some (7, 0, 0)))), some (.inr (.inr (some (8, 0, 0)))), some (.inl i)], [.inl ((opDown (sl M 0) (X.2 (i + 1))).1)], M1) _
  refine seg_ok 6 (⟨by omega, by omega, ?_⟩ : ((-2147483648 : Int) ≤ (i + 1) ∧ (i + 1) < 2147483648) ∧ ((0 : Int) ≤ (i + 1) ∧ (i + 1) < X.1) ∧ EvI X E_L_law (293, [some (.inr (.inr (some (30, 0, 0)))), some (.inr (.inr (some (7, 0, 0)))), some (.inr (.inr (some (8, 0, 0)))), some (.inl i)], [.inl (X.2 (i + 1)), .inr (.inr (some (8, 0, 0))), .inl ((opDown (sl M 0) (X.2 (i + 1))).1)], M1) _)
  refine ev_cl (z := z_X8_takeDown) (as := [.inr (.inr (some (8, 0, 0))), .inl (X.2 (i + 1))]) (rest := [.inl ((opDown (sl M 0) (X.2 (i + 1))).1)]) rfl (c_takeDown fW fS fA) ?_
  intro rr M2 hq
  obtain ⟨rfl, r1, r2, kt⟩ := hq
  show EvI X E_L_law (296, [some (.inr (.inr (some (30, 0, 0)))), some (.inr (.inr (some (7, 0, 0)))), some (.inr (.inr (some (8, 0, 0)))), some (.inl i)], [.inl ((opDown (sl M 0) (X.2 (i + 1))).1), .inl ((opDown (sl M 0) (X.2 (i + 1))).1)], M2) _
  refine seg_ok 1 (?_ : EvI X E_L_law (if (opDown (sl M 0) (X.2 (i + 1))).1 = (opDown (sl M 0) (X.2 (i + 1))).1 then 817 else 299, [some (.inr (.inr (some (30, 0, 0)))), some (.inr (.inr (some (7, 0, 0)))), some (.inr (.inr (some (8, 0, 0)))), some (.inl i)], [], M2) _)
  refine ev_if (fun h296 => ?_) (fun h296 => ?_)
  · exact J817 M2 (step_op h (by omega) hm (Inv_up1 (io_down h.1.1 (by omega)) (by omega) hm) e1 kc r1 r2 kt)
  · exact absurd rfl h296
set_option maxRecDepth 20000 in
theorem lw_c5 {Q : Option U → NM → Prop} {m i : Int} {M : NM} (h : Wld m M) (hm : m + 120 ≤ 62000) (hi : 0 ≤ i ∧ i + 4 ≤ X.1) (hX : X.1 ≤ 2048) (J817 : ∀ M2 : NM, Wld (m + 120) M2 → EvI X E_L_law (817, [some (.inr (.inr (some (30, 0, 0)))), some (.inr (.inr (some (7, 0, 0)))), some (.inr (.inr (some (8, 0, 0)))), some (.inl i)], [], M2) Q) : EvI X E_L_law (301, [some (.inr (.inr (some (30, 0, 0)))), some (.inr (.inr (some (7, 0, 0)))), some (.inr (.inr (some (8, 0, 0)))), some (.inl i)], [], M) Q := by
  refine seg_ok 16 (⟨by omega, by omega, by omega, by omega, by omega, by omega, ?_⟩ : ((-2147483648 : Int) ≤ (i + 1) ∧ (i + 1) < 2147483648) ∧ ((0 : Int) ≤ (i + 1) ∧ (i + 1) < X.1) ∧ ((-2147483648 : Int) ≤ (i + 2) ∧ (i + 2) < 2147483648) ∧ ((0 : Int) ≤ (i + 2) ∧ (i + 2) < X.1) ∧ ((-2147483648 : Int) ≤ (i + 3) ∧ (i + 3) < 2147483648) ∧ ((0 : Int) ≤ (i + 3) ∧ (i + 3) < X.1) ∧ EvI X E_L_law (317, [some (.inr (.inr (some (30, 0, 0)))), some (.inr (.inr (some (7, 0, 0)))), some (.inr (.inr (some (8, 0, 0)))), some (.inl i)], [.inl (X.2 (i + 3)), .inl (X.2 (i + 2)), .inl (X.2 (i + 1)), .inr (.inr (some (7, 0, 0)))], M) _)
  refine ev_cl (z := z_X7_hold) (as := [.inr (.inr (some (7, 0, 0))), .inl (X.2 (i + 1)), .inl (X.2 (i + 2)), .inl (X.2 (i + 3))]) (rest := []) rfl (d_hold h.1.1 h.2.1.1 h.2.1.2.1) ?_
  intro rr M1 hq
  obtain ⟨rfl, e1, kc⟩ := hq
  obtain ⟨fW, fS, fA⟩ := ref_op h kc
  show EvI X E_L_law (320, [some (.inr (.inr (some (30, 0, 0)))), some (.inr (.inr (some (7, 0, 0)))), some (.inr (.inr (some (8, 0, 0)))), some (.inl i)], [.inl ((opHold (sl M 0) (X.2 (i + 1)) (X.2 (i + 2)) (X.2 (i + 3))).1)], M1) _
  refine seg_ok 16 (⟨by omega, by omega, by omega, by omega, by omega, by omega, ?_⟩ : ((-2147483648 : Int) ≤ (i + 1) ∧ (i + 1) < 2147483648) ∧ ((0 : Int) ≤ (i + 1) ∧ (i + 1) < X.1) ∧ ((-2147483648 : Int) ≤ (i + 2) ∧ (i + 2) < 2147483648) ∧ ((0 : Int) ≤ (i + 2) ∧ (i + 2) < X.1) ∧ ((-2147483648 : Int) ≤ (i + 3) ∧ (i + 3) < 2147483648) ∧ ((0 : Int) ≤ (i + 3) ∧ (i + 3) < X.1) ∧ EvI X E_L_law (336, [some (.inr (.inr (some (30, 0, 0)))), some (.inr (.inr (some (7, 0, 0)))), some (.inr (.inr (some (8, 0, 0)))), some (.inl i)], [.inl (X.2 (i + 3)), .inl (X.2 (i + 2)), .inl (X.2 (i + 1)), .inr (.inr (some (8, 0, 0))), .inl ((opHold (sl M 0) (X.2 (i + 1)) (X.2 (i + 2)) (X.2 (i + 3))).1)], M1) _)
  refine ev_cl (z := z_X8_hold) (as := [.inr (.inr (some (8, 0, 0))), .inl (X.2 (i + 1)), .inl (X.2 (i + 2)), .inl (X.2 (i + 3))]) (rest := [.inl ((opHold (sl M 0) (X.2 (i + 1)) (X.2 (i + 2)) (X.2 (i + 3))).1)]) rfl (c_hold fW fS fA) ?_
  intro rr M2 hq
  obtain ⟨rfl, r1, r2, kt⟩ := hq
  show EvI X E_L_law (339, [some (.inr (.inr (some (30, 0, 0)))), some (.inr (.inr (some (7, 0, 0)))), some (.inr (.inr (some (8, 0, 0)))), some (.inl i)], [.inl ((opHold (sl M 0) (X.2 (i + 1)) (X.2 (i + 2)) (X.2 (i + 3))).1), .inl ((opHold (sl M 0) (X.2 (i + 1)) (X.2 (i + 2)) (X.2 (i + 3))).1)], M2) _
  refine seg_ok 1 (?_ : EvI X E_L_law (if (opHold (sl M 0) (X.2 (i + 1)) (X.2 (i + 2)) (X.2 (i + 3))).1 = (opHold (sl M 0) (X.2 (i + 1)) (X.2 (i + 2)) (X.2 (i + 3))).1 then 817 else 342, [some (.inr (.inr (some (30, 0, 0)))), some (.inr (.inr (some (7, 0, 0)))), some (.inr (.inr (some (8, 0, 0)))), some (.inl i)], [], M2) _)
  refine ev_if (fun h339 => ?_) (fun h339 => ?_)
  · exact J817 M2 (step_op h (by omega) hm (Inv_up1 (io_hold h.1.1 (by omega)) (by omega) hm) e1 kc r1 r2 kt)
  · exact absurd rfl h339
set_option maxRecDepth 20000 in
theorem lw_c6 {Q : Option U → NM → Prop} {m i : Int} {M : NM} (h : Wld m M) (hm : m + 120 ≤ 62000) (hi : 0 ≤ i ∧ i + 4 ≤ X.1) (hX : X.1 ≤ 2048) (J817 : ∀ M2 : NM, Wld (m + 120) M2 → EvI X E_L_law (817, [some (.inr (.inr (some (30, 0, 0)))), some (.inr (.inr (some (7, 0, 0)))), some (.inr (.inr (some (8, 0, 0)))), some (.inl i)], [], M2) Q) : EvI X E_L_law (344, [some (.inr (.inr (some (30, 0, 0)))), some (.inr (.inr (some (7, 0, 0)))), some (.inr (.inr (some (8, 0, 0)))), some (.inl i)], [], M) Q := by
  refine seg_ok 6 (⟨by omega, by omega, ?_⟩ : ((-2147483648 : Int) ≤ (i + 1) ∧ (i + 1) < 2147483648) ∧ ((0 : Int) ≤ (i + 1) ∧ (i + 1) < X.1) ∧ EvI X E_L_law (350, [some (.inr (.inr (some (30, 0, 0)))), some (.inr (.inr (some (7, 0, 0)))), some (.inr (.inr (some (8, 0, 0)))), some (.inl i)], [.inl (X.2 (i + 1)), .inr (.inr (some (7, 0, 0)))], M) _)
  refine ev_cl (z := z_X7_buy) (as := [.inr (.inr (some (7, 0, 0))), .inl (X.2 (i + 1))]) (rest := []) rfl (d_buy h.1.1 h.2.1.1 h.2.1.2.1) ?_
  intro rr M1 hq
  obtain ⟨rfl, e1, kc⟩ := hq
  obtain ⟨fW, fS, fA⟩ := ref_op h kc
  show EvI X E_L_law (353, [some (.inr (.inr (some (30, 0, 0)))), some (.inr (.inr (some (7, 0, 0)))), some (.inr (.inr (some (8, 0, 0)))), some (.inl i)], [.inl ((opBuy (sl M 0) (X.2 (i + 1))).1)], M1) _
  refine seg_ok 6 (⟨by omega, by omega, ?_⟩ : ((-2147483648 : Int) ≤ (i + 1) ∧ (i + 1) < 2147483648) ∧ ((0 : Int) ≤ (i + 1) ∧ (i + 1) < X.1) ∧ EvI X E_L_law (359, [some (.inr (.inr (some (30, 0, 0)))), some (.inr (.inr (some (7, 0, 0)))), some (.inr (.inr (some (8, 0, 0)))), some (.inl i)], [.inl (X.2 (i + 1)), .inr (.inr (some (8, 0, 0))), .inl ((opBuy (sl M 0) (X.2 (i + 1))).1)], M1) _)
  refine ev_cl (z := z_X8_buy) (as := [.inr (.inr (some (8, 0, 0))), .inl (X.2 (i + 1))]) (rest := [.inl ((opBuy (sl M 0) (X.2 (i + 1))).1)]) rfl (c_buy fW fS fA) ?_
  intro rr M2 hq
  obtain ⟨rfl, r1, r2, kt⟩ := hq
  show EvI X E_L_law (362, [some (.inr (.inr (some (30, 0, 0)))), some (.inr (.inr (some (7, 0, 0)))), some (.inr (.inr (some (8, 0, 0)))), some (.inl i)], [.inl ((opBuy (sl M 0) (X.2 (i + 1))).1), .inl ((opBuy (sl M 0) (X.2 (i + 1))).1)], M2) _
  refine seg_ok 1 (?_ : EvI X E_L_law (if (opBuy (sl M 0) (X.2 (i + 1))).1 = (opBuy (sl M 0) (X.2 (i + 1))).1 then 817 else 365, [some (.inr (.inr (some (30, 0, 0)))), some (.inr (.inr (some (7, 0, 0)))), some (.inr (.inr (some (8, 0, 0)))), some (.inl i)], [], M2) _)
  refine ev_if (fun h362 => ?_) (fun h362 => ?_)
  · exact J817 M2 (step_op h (by omega) hm (Inv_up1 (io_buy h.1.1 (by omega)) (by omega) hm) e1 kc r1 r2 kt)
  · exact absurd rfl h362
set_option maxRecDepth 20000 in
theorem lw_c7 {Q : Option U → NM → Prop} {m i : Int} {M : NM} (h : Wld m M) (hm : m + 120 ≤ 62000) (hi : 0 ≤ i ∧ i + 4 ≤ X.1) (hX : X.1 ≤ 2048) (J817 : ∀ M2 : NM, Wld (m + 120) M2 → EvI X E_L_law (817, [some (.inr (.inr (some (30, 0, 0)))), some (.inr (.inr (some (7, 0, 0)))), some (.inr (.inr (some (8, 0, 0)))), some (.inl i)], [], M2) Q) : EvI X E_L_law (367, [some (.inr (.inr (some (30, 0, 0)))), some (.inr (.inr (some (7, 0, 0)))), some (.inr (.inr (some (8, 0, 0)))), some (.inl i)], [], M) Q := by
  refine seg_ok 6 (⟨by omega, by omega, ?_⟩ : ((-2147483648 : Int) ≤ (i + 1) ∧ (i + 1) < 2147483648) ∧ ((0 : Int) ≤ (i + 1) ∧ (i + 1) < X.1) ∧ EvI X E_L_law (373, [some (.inr (.inr (some (30, 0, 0)))), some (.inr (.inr (some (7, 0, 0)))), some (.inr (.inr (some (8, 0, 0)))), some (.inl i)], [.inl (X.2 (i + 1)), .inr (.inr (some (7, 0, 0)))], M) _)
  refine ev_cl (z := z_X7_drop) (as := [.inr (.inr (some (7, 0, 0))), .inl (X.2 (i + 1))]) (rest := []) rfl (d_drop h.1.1 h.2.1.1 h.2.1.2.1) ?_
  intro rr M1 hq
  obtain ⟨rfl, e1, kc⟩ := hq
  obtain ⟨fW, fS, fA⟩ := ref_op h kc
  show EvI X E_L_law (376, [some (.inr (.inr (some (30, 0, 0)))), some (.inr (.inr (some (7, 0, 0)))), some (.inr (.inr (some (8, 0, 0)))), some (.inl i)], [.inl ((opDrop (sl M 0) (X.2 (i + 1))).1)], M1) _
  refine seg_ok 6 (⟨by omega, by omega, ?_⟩ : ((-2147483648 : Int) ≤ (i + 1) ∧ (i + 1) < 2147483648) ∧ ((0 : Int) ≤ (i + 1) ∧ (i + 1) < X.1) ∧ EvI X E_L_law (382, [some (.inr (.inr (some (30, 0, 0)))), some (.inr (.inr (some (7, 0, 0)))), some (.inr (.inr (some (8, 0, 0)))), some (.inl i)], [.inl (X.2 (i + 1)), .inr (.inr (some (8, 0, 0))), .inl ((opDrop (sl M 0) (X.2 (i + 1))).1)], M1) _)
  refine ev_cl (z := z_X8_drop) (as := [.inr (.inr (some (8, 0, 0))), .inl (X.2 (i + 1))]) (rest := [.inl ((opDrop (sl M 0) (X.2 (i + 1))).1)]) rfl (c_drop fW fS fA) ?_
  intro rr M2 hq
  obtain ⟨rfl, r1, r2, kt⟩ := hq
  show EvI X E_L_law (385, [some (.inr (.inr (some (30, 0, 0)))), some (.inr (.inr (some (7, 0, 0)))), some (.inr (.inr (some (8, 0, 0)))), some (.inl i)], [.inl ((opDrop (sl M 0) (X.2 (i + 1))).1), .inl ((opDrop (sl M 0) (X.2 (i + 1))).1)], M2) _
  refine seg_ok 1 (?_ : EvI X E_L_law (if (opDrop (sl M 0) (X.2 (i + 1))).1 = (opDrop (sl M 0) (X.2 (i + 1))).1 then 817 else 388, [some (.inr (.inr (some (30, 0, 0)))), some (.inr (.inr (some (7, 0, 0)))), some (.inr (.inr (some (8, 0, 0)))), some (.inl i)], [], M2) _)
  refine ev_if (fun h385 => ?_) (fun h385 => ?_)
  · exact J817 M2 (step_op h (by omega) hm (Inv_up1 (io_drop h.1.1 (by omega)) (by omega) hm) e1 kc r1 r2 kt)
  · exact absurd rfl h385
set_option maxRecDepth 20000 in
theorem lw_c8 {Q : Option U → NM → Prop} {m i : Int} {M : NM} (h : Wld m M) (hm : m + 120 ≤ 62000) (hi : 0 ≤ i ∧ i + 4 ≤ X.1) (hX : X.1 ≤ 2048) (J817 : ∀ M2 : NM, Wld (m + 120) M2 → EvI X E_L_law (817, [some (.inr (.inr (some (30, 0, 0)))), some (.inr (.inr (some (7, 0, 0)))), some (.inr (.inr (some (8, 0, 0)))), some (.inl i)], [], M2) Q) : EvI X E_L_law (390, [some (.inr (.inr (some (30, 0, 0)))), some (.inr (.inr (some (7, 0, 0)))), some (.inr (.inr (some (8, 0, 0)))), some (.inl i)], [], M) Q := by
  refine seg_ok 6 (⟨by omega, by omega, ?_⟩ : ((-2147483648 : Int) ≤ (i + 1) ∧ (i + 1) < 2147483648) ∧ ((0 : Int) ≤ (i + 1) ∧ (i + 1) < X.1) ∧ EvI X E_L_law (396, [some (.inr (.inr (some (30, 0, 0)))), some (.inr (.inr (some (7, 0, 0)))), some (.inr (.inr (some (8, 0, 0)))), some (.inl i)], [.inl (X.2 (i + 1)), .inr (.inr (some (7, 0, 0)))], M) _)
  refine ev_cl (z := z_X7_giveBack) (as := [.inr (.inr (some (7, 0, 0))), .inl (X.2 (i + 1))]) (rest := []) rfl (d_giveBack h.1.1 h.2.1.1 h.2.1.2.1) ?_
  intro rr M1 hq
  obtain ⟨rfl, e1, kc⟩ := hq
  obtain ⟨fW, fS, fA⟩ := ref_op h kc
  show EvI X E_L_law (399, [some (.inr (.inr (some (30, 0, 0)))), some (.inr (.inr (some (7, 0, 0)))), some (.inr (.inr (some (8, 0, 0)))), some (.inl i)], [.inl ((opBack (sl M 0) (X.2 (i + 1))).1)], M1) _
  refine seg_ok 6 (⟨by omega, by omega, ?_⟩ : ((-2147483648 : Int) ≤ (i + 1) ∧ (i + 1) < 2147483648) ∧ ((0 : Int) ≤ (i + 1) ∧ (i + 1) < X.1) ∧ EvI X E_L_law (405, [some (.inr (.inr (some (30, 0, 0)))), some (.inr (.inr (some (7, 0, 0)))), some (.inr (.inr (some (8, 0, 0)))), some (.inl i)], [.inl (X.2 (i + 1)), .inr (.inr (some (8, 0, 0))), .inl ((opBack (sl M 0) (X.2 (i + 1))).1)], M1) _)
  refine ev_cl (z := z_X8_giveBack) (as := [.inr (.inr (some (8, 0, 0))), .inl (X.2 (i + 1))]) (rest := [.inl ((opBack (sl M 0) (X.2 (i + 1))).1)]) rfl (c_giveBack fW fS fA) ?_
  intro rr M2 hq
  obtain ⟨rfl, r1, r2, kt⟩ := hq
  show EvI X E_L_law (408, [some (.inr (.inr (some (30, 0, 0)))), some (.inr (.inr (some (7, 0, 0)))), some (.inr (.inr (some (8, 0, 0)))), some (.inl i)], [.inl ((opBack (sl M 0) (X.2 (i + 1))).1), .inl ((opBack (sl M 0) (X.2 (i + 1))).1)], M2) _
  refine seg_ok 1 (?_ : EvI X E_L_law (if (opBack (sl M 0) (X.2 (i + 1))).1 = (opBack (sl M 0) (X.2 (i + 1))).1 then 817 else 411, [some (.inr (.inr (some (30, 0, 0)))), some (.inr (.inr (some (7, 0, 0)))), some (.inr (.inr (some (8, 0, 0)))), some (.inl i)], [], M2) _)
  refine ev_if (fun h408 => ?_) (fun h408 => ?_)
  · exact J817 M2 (step_op h (by omega) hm (Inv_up1 (io_back h.1.1 (by omega)) (by omega) hm) e1 kc r1 r2 kt)
  · exact absurd rfl h408
set_option maxRecDepth 20000 in
theorem lw_c9 {Q : Option U → NM → Prop} {m i : Int} {M : NM} (h : Wld m M) (hm : m + 120 ≤ 62000) (hi : 0 ≤ i ∧ i + 4 ≤ X.1) (hX : X.1 ≤ 2048) (J817 : ∀ M2 : NM, Wld (m + 120) M2 → EvI X E_L_law (817, [some (.inr (.inr (some (30, 0, 0)))), some (.inr (.inr (some (7, 0, 0)))), some (.inr (.inr (some (8, 0, 0)))), some (.inl i)], [], M2) Q) : EvI X E_L_law (413, [some (.inr (.inr (some (30, 0, 0)))), some (.inr (.inr (some (7, 0, 0)))), some (.inr (.inr (some (8, 0, 0)))), some (.inl i)], [], M) Q := by
  refine seg_ok 6 (⟨by omega, by omega, ?_⟩ : ((-2147483648 : Int) ≤ (i + 1) ∧ (i + 1) < 2147483648) ∧ ((0 : Int) ≤ (i + 1) ∧ (i + 1) < X.1) ∧ EvI X E_L_law (419, [some (.inr (.inr (some (30, 0, 0)))), some (.inr (.inr (some (7, 0, 0)))), some (.inr (.inr (some (8, 0, 0)))), some (.inl i)], [.inl (X.2 (i + 1)), .inr (.inr (some (7, 0, 0)))], M) _)
  refine ev_cl (z := z_X7_comeIn) (as := [.inr (.inr (some (7, 0, 0))), .inl (X.2 (i + 1))]) (rest := []) rfl (d_comeIn h.1.1 h.2.1.1 h.2.1.2.1 (by omega)) ?_
  intro rr M1 hq
  obtain ⟨rfl, e1, kc⟩ := hq
  obtain ⟨fW, fS, fA⟩ := ref_op h kc
  show EvI X E_L_law (422, [some (.inr (.inr (some (30, 0, 0)))), some (.inr (.inr (some (7, 0, 0)))), some (.inr (.inr (some (8, 0, 0)))), some (.inl i)], [.inl ((opIn (sl M 0) (X.2 (i + 1))).1)], M1) _
  refine seg_ok 6 (⟨by omega, by omega, ?_⟩ : ((-2147483648 : Int) ≤ (i + 1) ∧ (i + 1) < 2147483648) ∧ ((0 : Int) ≤ (i + 1) ∧ (i + 1) < X.1) ∧ EvI X E_L_law (428, [some (.inr (.inr (some (30, 0, 0)))), some (.inr (.inr (some (7, 0, 0)))), some (.inr (.inr (some (8, 0, 0)))), some (.inl i)], [.inl (X.2 (i + 1)), .inr (.inr (some (8, 0, 0))), .inl ((opIn (sl M 0) (X.2 (i + 1))).1)], M1) _)
  refine ev_cl (z := z_X8_comeIn) (as := [.inr (.inr (some (8, 0, 0))), .inl (X.2 (i + 1))]) (rest := [.inl ((opIn (sl M 0) (X.2 (i + 1))).1)]) rfl (c_comeIn fW fS fA (by omega)) ?_
  intro rr M2 hq
  obtain ⟨rfl, r1, r2, kt⟩ := hq
  show EvI X E_L_law (431, [some (.inr (.inr (some (30, 0, 0)))), some (.inr (.inr (some (7, 0, 0)))), some (.inr (.inr (some (8, 0, 0)))), some (.inl i)], [.inl ((opIn (sl M 0) (X.2 (i + 1))).1), .inl ((opIn (sl M 0) (X.2 (i + 1))).1)], M2) _
  refine seg_ok 1 (?_ : EvI X E_L_law (if (opIn (sl M 0) (X.2 (i + 1))).1 = (opIn (sl M 0) (X.2 (i + 1))).1 then 817 else 434, [some (.inr (.inr (some (30, 0, 0)))), some (.inr (.inr (some (7, 0, 0)))), some (.inr (.inr (some (8, 0, 0)))), some (.inl i)], [], M2) _)
  refine ev_if (fun h431 => ?_) (fun h431 => ?_)
  · exact J817 M2 (step_op h (by omega) hm (Inv_up1 (io_in h.1.1 (by omega)) (by omega) hm) e1 kc r1 r2 kt)
  · exact absurd rfl h431
set_option maxRecDepth 20000 in
theorem lw_c10 {Q : Option U → NM → Prop} {m i : Int} {M : NM} (h : Wld m M) (hm : m + 120 ≤ 62000) (hi : 0 ≤ i ∧ i + 4 ≤ X.1) (hX : X.1 ≤ 2048) (J817 : ∀ M2 : NM, Wld (m + 120) M2 → EvI X E_L_law (817, [some (.inr (.inr (some (30, 0, 0)))), some (.inr (.inr (some (7, 0, 0)))), some (.inr (.inr (some (8, 0, 0)))), some (.inl i)], [], M2) Q) : EvI X E_L_law (436, [some (.inr (.inr (some (30, 0, 0)))), some (.inr (.inr (some (7, 0, 0)))), some (.inr (.inr (some (8, 0, 0)))), some (.inl i)], [], M) Q := by
  refine seg_ok 6 (⟨by omega, by omega, ?_⟩ : ((-2147483648 : Int) ≤ (i + 1) ∧ (i + 1) < 2147483648) ∧ ((0 : Int) ≤ (i + 1) ∧ (i + 1) < X.1) ∧ EvI X E_L_law (442, [some (.inr (.inr (some (30, 0, 0)))), some (.inr (.inr (some (7, 0, 0)))), some (.inr (.inr (some (8, 0, 0)))), some (.inl i)], [.inl (X.2 (i + 1)), .inr (.inr (some (7, 0, 0)))], M) _)
  refine ev_cl (z := z_X7_upgrade) (as := [.inr (.inr (some (7, 0, 0))), .inl (X.2 (i + 1))]) (rest := []) rfl (d_upgrade h.1.1 h.2.1.1 h.2.1.2.1 (by omega)) ?_
  intro rr M1 hq
  obtain ⟨rfl, e1, kc⟩ := hq
  obtain ⟨fW, fS, fA⟩ := ref_op h kc
  show EvI X E_L_law (445, [some (.inr (.inr (some (30, 0, 0)))), some (.inr (.inr (some (7, 0, 0)))), some (.inr (.inr (some (8, 0, 0)))), some (.inl i)], [.inl ((opUpg (sl M 0) (X.2 (i + 1))).1)], M1) _
  refine seg_ok 6 (⟨by omega, by omega, ?_⟩ : ((-2147483648 : Int) ≤ (i + 1) ∧ (i + 1) < 2147483648) ∧ ((0 : Int) ≤ (i + 1) ∧ (i + 1) < X.1) ∧ EvI X E_L_law (451, [some (.inr (.inr (some (30, 0, 0)))), some (.inr (.inr (some (7, 0, 0)))), some (.inr (.inr (some (8, 0, 0)))), some (.inl i)], [.inl (X.2 (i + 1)), .inr (.inr (some (8, 0, 0))), .inl ((opUpg (sl M 0) (X.2 (i + 1))).1)], M1) _)
  refine ev_cl (z := z_X8_upgrade) (as := [.inr (.inr (some (8, 0, 0))), .inl (X.2 (i + 1))]) (rest := [.inl ((opUpg (sl M 0) (X.2 (i + 1))).1)]) rfl (c_upgrade fW fS fA (by omega)) ?_
  intro rr M2 hq
  obtain ⟨rfl, r1, r2, kt⟩ := hq
  show EvI X E_L_law (454, [some (.inr (.inr (some (30, 0, 0)))), some (.inr (.inr (some (7, 0, 0)))), some (.inr (.inr (some (8, 0, 0)))), some (.inl i)], [.inl ((opUpg (sl M 0) (X.2 (i + 1))).1), .inl ((opUpg (sl M 0) (X.2 (i + 1))).1)], M2) _
  refine seg_ok 1 (?_ : EvI X E_L_law (if (opUpg (sl M 0) (X.2 (i + 1))).1 = (opUpg (sl M 0) (X.2 (i + 1))).1 then 817 else 457, [some (.inr (.inr (some (30, 0, 0)))), some (.inr (.inr (some (7, 0, 0)))), some (.inr (.inr (some (8, 0, 0)))), some (.inl i)], [], M2) _)
  refine ev_if (fun h454 => ?_) (fun h454 => ?_)
  · exact J817 M2 (step_op h (by omega) hm (Inv_up1 (io_upg h.1.1 (by omega)) (by omega) hm) e1 kc r1 r2 kt)
  · exact absurd rfl h454
set_option maxRecDepth 20000 in
theorem lw_c11 {Q : Option U → NM → Prop} {m i : Int} {M : NM} (h : Wld m M) (hm : m + 120 ≤ 62000) (hi : 0 ≤ i ∧ i + 4 ≤ X.1) (hX : X.1 ≤ 2048) (J817 : ∀ M2 : NM, Wld (m + 120) M2 → EvI X E_L_law (817, [some (.inr (.inr (some (30, 0, 0)))), some (.inr (.inr (some (7, 0, 0)))), some (.inr (.inr (some (8, 0, 0)))), some (.inl i)], [], M2) Q) : EvI X E_L_law (459, [some (.inr (.inr (some (30, 0, 0)))), some (.inr (.inr (some (7, 0, 0)))), some (.inr (.inr (some (8, 0, 0)))), some (.inl i)], [], M) Q := by
  refine seg_ok 6 (⟨by omega, by omega, ?_⟩ : ((-2147483648 : Int) ≤ (i + 1) ∧ (i + 1) < 2147483648) ∧ ((0 : Int) ≤ (i + 1) ∧ (i + 1) < X.1) ∧ EvI X E_L_law (465, [some (.inr (.inr (some (30, 0, 0)))), some (.inr (.inr (some (7, 0, 0)))), some (.inr (.inr (some (8, 0, 0)))), some (.inl i)], [.inl (X.2 (i + 1)), .inr (.inr (some (7, 0, 0)))], M) _)
  refine ev_cl (z := z_X7_pass) (as := [.inr (.inr (some (7, 0, 0))), .inl (X.2 (i + 1))]) (rest := []) rfl (d_pass h.1.1 h.2.1.1 h.2.1.2.1) ?_
  intro rr M1 hq
  obtain ⟨rfl, e1, kc⟩ := hq
  obtain ⟨fW, fS, fA⟩ := ref_op h kc
  show EvI X E_L_law (468, [some (.inr (.inr (some (30, 0, 0)))), some (.inr (.inr (some (7, 0, 0)))), some (.inr (.inr (some (8, 0, 0)))), some (.inl i)], [.inl ((opPass (sl M 0) (X.2 (i + 1))).1)], M1) _
  refine seg_ok 6 (⟨by omega, by omega, ?_⟩ : ((-2147483648 : Int) ≤ (i + 1) ∧ (i + 1) < 2147483648) ∧ ((0 : Int) ≤ (i + 1) ∧ (i + 1) < X.1) ∧ EvI X E_L_law (474, [some (.inr (.inr (some (30, 0, 0)))), some (.inr (.inr (some (7, 0, 0)))), some (.inr (.inr (some (8, 0, 0)))), some (.inl i)], [.inl (X.2 (i + 1)), .inr (.inr (some (8, 0, 0))), .inl ((opPass (sl M 0) (X.2 (i + 1))).1)], M1) _)
  refine ev_cl (z := z_X8_pass) (as := [.inr (.inr (some (8, 0, 0))), .inl (X.2 (i + 1))]) (rest := [.inl ((opPass (sl M 0) (X.2 (i + 1))).1)]) rfl (c_pass fW fS fA) ?_
  intro rr M2 hq
  obtain ⟨rfl, r1, r2, kt⟩ := hq
  show EvI X E_L_law (477, [some (.inr (.inr (some (30, 0, 0)))), some (.inr (.inr (some (7, 0, 0)))), some (.inr (.inr (some (8, 0, 0)))), some (.inl i)], [.inl ((opPass (sl M 0) (X.2 (i + 1))).1), .inl ((opPass (sl M 0) (X.2 (i + 1))).1)], M2) _
  refine seg_ok 1 (?_ : EvI X E_L_law (if (opPass (sl M 0) (X.2 (i + 1))).1 = (opPass (sl M 0) (X.2 (i + 1))).1 then 817 else 480, [some (.inr (.inr (some (30, 0, 0)))), some (.inr (.inr (some (7, 0, 0)))), some (.inr (.inr (some (8, 0, 0)))), some (.inl i)], [], M2) _)
  refine ev_if (fun h477 => ?_) (fun h477 => ?_)
  · exact J817 M2 (step_op h (by omega) hm (Inv_up1 (io_pass h.1.1 (by omega)) (by omega) hm) e1 kc r1 r2 kt)
  · exact absurd rfl h477
set_option maxRecDepth 20000 in
theorem lw_c12 {Q : Option U → NM → Prop} {m i : Int} {M : NM} (h : Wld m M) (hm : m + 120 ≤ 62000) (hi : 0 ≤ i ∧ i + 4 ≤ X.1) (hX : X.1 ≤ 2048) (J817 : ∀ M2 : NM, Wld (m + 120) M2 → EvI X E_L_law (817, [some (.inr (.inr (some (30, 0, 0)))), some (.inr (.inr (some (7, 0, 0)))), some (.inr (.inr (some (8, 0, 0)))), some (.inl i)], [], M2) Q) : EvI X E_L_law (482, [some (.inr (.inr (some (30, 0, 0)))), some (.inr (.inr (some (7, 0, 0)))), some (.inr (.inr (some (8, 0, 0)))), some (.inl i)], [], M) Q := by
  refine seg_ok 1 (?_ : EvI X E_L_law (483, [some (.inr (.inr (some (30, 0, 0)))), some (.inr (.inr (some (7, 0, 0)))), some (.inr (.inr (some (8, 0, 0)))), some (.inl i)], [.inr (.inr (some (7, 0, 0)))], M) _)
  refine ev_cl (z := z_X7_closeDoors) (as := [.inr (.inr (some (7, 0, 0)))]) (rest := []) rfl (d_closeDoors h.1.1 h.2.1.1 h.2.1.2.1) ?_
  intro rr M1 hq
  obtain ⟨rfl, e1, kc⟩ := hq
  obtain ⟨fW, fS, fA⟩ := ref_op h kc
  show EvI X E_L_law (486, [some (.inr (.inr (some (30, 0, 0)))), some (.inr (.inr (some (7, 0, 0)))), some (.inr (.inr (some (8, 0, 0)))), some (.inl i)], [.inl ((opClose (sl M 0)).1)], M1) _
  refine seg_ok 1 (?_ : EvI X E_L_law (487, [some (.inr (.inr (some (30, 0, 0)))), some (.inr (.inr (some (7, 0, 0)))), some (.inr (.inr (some (8, 0, 0)))), some (.inl i)], [.inr (.inr (some (8, 0, 0))), .inl ((opClose (sl M 0)).1)], M1) _)
  refine ev_cl (z := z_X8_closeDoors) (as := [.inr (.inr (some (8, 0, 0)))]) (rest := [.inl ((opClose (sl M 0)).1)]) rfl (c_closeDoors fW fS fA) ?_
  intro rr M2 hq
  obtain ⟨rfl, r1, r2, kt⟩ := hq
  show EvI X E_L_law (490, [some (.inr (.inr (some (30, 0, 0)))), some (.inr (.inr (some (7, 0, 0)))), some (.inr (.inr (some (8, 0, 0)))), some (.inl i)], [.inl ((opClose (sl M 0)).1), .inl ((opClose (sl M 0)).1)], M2) _
  refine seg_ok 1 (?_ : EvI X E_L_law (if (opClose (sl M 0)).1 = (opClose (sl M 0)).1 then 817 else 493, [some (.inr (.inr (some (30, 0, 0)))), some (.inr (.inr (some (7, 0, 0)))), some (.inr (.inr (some (8, 0, 0)))), some (.inl i)], [], M2) _)
  refine ev_if (fun h490 => ?_) (fun h490 => ?_)
  · exact J817 M2 (step_op h (by omega) hm (Inv_up1 (io_close h.1.1 (by omega)) (by omega) hm) e1 kc r1 r2 kt)
  · exact absurd rfl h490
set_option maxRecDepth 20000 in
theorem lw_c13 {Q : Option U → NM → Prop} {m i : Int} {M : NM} (h : Wld m M) (hm : m + 120 ≤ 62000) (hi : 0 ≤ i ∧ i + 4 ≤ X.1) (hX : X.1 ≤ 2048) (J817 : ∀ M2 : NM, Wld (m + 120) M2 → EvI X E_L_law (817, [some (.inr (.inr (some (30, 0, 0)))), some (.inr (.inr (some (7, 0, 0)))), some (.inr (.inr (some (8, 0, 0)))), some (.inl i)], [], M2) Q) : EvI X E_L_law (495, [some (.inr (.inr (some (30, 0, 0)))), some (.inr (.inr (some (7, 0, 0)))), some (.inr (.inr (some (8, 0, 0)))), some (.inl i)], [], M) Q := by
  by_cases hz0 : M 2 0 0 2 = 0
  · refine seg_ok 1 (?_ : EvI X E_L_law (496, [some (.inr (.inr (some (30, 0, 0)))), some (.inr (.inr (some (7, 0, 0)))), some (.inr (.inr (some (8, 0, 0)))), some (.inl i)], [.inr (.inr (some (7, 0, 0)))], M) _)
    refine ev_cl (z := z_X7_undo) (as := [.inr (.inr (some (7, 0, 0)))]) (rest := []) rfl (d_undo h.2.1.1 h.2.1.2.1 (fun z => (h.2.1.2.2.2 (M 2 0 0 2 - 1) (by omega) (by omega)).1.1.2.2.2.2.2.2.2.1)) ?_
    intro rr M1 hq
    obtain ⟨rfl, hM1⟩ := hq.1 hz0
    rw [hM1]
    show EvI X E_L_law (499, [some (.inr (.inr (some (30, 0, 0)))), some (.inr (.inr (some (7, 0, 0)))), some (.inr (.inr (some (8, 0, 0)))), some (.inl i)], [.inl (-2)], M) _
    refine seg_ok 1 (?_ : EvI X E_L_law (500, [some (.inr (.inr (some (30, 0, 0)))), some (.inr (.inr (some (7, 0, 0)))), some (.inr (.inr (some (8, 0, 0)))), some (.inl i)], [.inr (.inr (some (8, 0, 0))), .inl (-2)], M) _)
    refine ev_cl (z := z_X8_undo) (as := [.inr (.inr (some (8, 0, 0)))]) (rest := [.inl (-2)]) rfl (c_undo (ref_in h rfl rfl).1 (ref_in h rfl rfl).2.1 (ref_in h rfl rfl).2.2) ?_
    intro rr M2 hq
    obtain ⟨u0, -, u2, u3⟩ := hq
    obtain ⟨rfl, r1, r2, r3⟩ := u0 (by rw [h.2.1.2.2.1]; exact hz0)
    show EvI X E_L_law (503, [some (.inr (.inr (some (30, 0, 0)))), some (.inr (.inr (some (7, 0, 0)))), some (.inr (.inr (some (8, 0, 0)))), some (.inl i)], [.inl (-2), .inl (-2)], M2) _
    refine seg_ok 1 (?_ : EvI X E_L_law (817, [some (.inr (.inr (some (30, 0, 0)))), some (.inr (.inr (some (7, 0, 0)))), some (.inr (.inr (some (8, 0, 0)))), some (.inl i)], [], M2) _)
    exact J817 M2 (Wld_up (step_undo0 h hz0 r1 r2 r3 u2 u3) (by omega) hm)
  · refine seg_ok 1 (?_ : EvI X E_L_law (496, [some (.inr (.inr (some (30, 0, 0)))), some (.inr (.inr (some (7, 0, 0)))), some (.inr (.inr (some (8, 0, 0)))), some (.inl i)], [.inr (.inr (some (7, 0, 0)))], M) _)
    refine ev_cl (z := z_X7_undo) (as := [.inr (.inr (some (7, 0, 0)))]) (rest := []) rfl (d_undo h.2.1.1 h.2.1.2.1 (fun z => (h.2.1.2.2.2 (M 2 0 0 2 - 1) (by omega) (by omega)).1.1.2.2.2.2.2.2.2.1)) ?_
    intro rr M1 hq
    obtain ⟨rfl, e1, f1⟩ := hq.2 hz0
    obtain ⟨fW, fS, fA⟩ := ref_in h ((FR_K f1 stK_17).trans (wri_K (by decide))) ((FR_K f1 stK_8).trans (wri_K (by decide)))
    have e84 : M1 8 0 0 4 = M 2 0 0 2 := by rw [(FR_K f1 stK_8).trans (wri_K (by decide))]; exact h.2.1.2.2.1
    show EvI X E_L_law (499, [some (.inr (.inr (some (30, 0, 0)))), some (.inr (.inr (some (7, 0, 0)))), some (.inr (.inr (some (8, 0, 0)))), some (.inl i)], [.inl (M 2 0 0 2 - 1)], M1) _
    refine seg_ok 1 (?_ : EvI X E_L_law (500, [some (.inr (.inr (some (30, 0, 0)))), some (.inr (.inr (some (7, 0, 0)))), some (.inr (.inr (some (8, 0, 0)))), some (.inl i)], [.inr (.inr (some (8, 0, 0))), .inl (M 2 0 0 2 - 1)], M1) _)
    refine ev_cl (z := z_X8_undo) (as := [.inr (.inr (some (8, 0, 0)))]) (rest := [.inl (M 2 0 0 2 - 1)]) rfl (c_undo fW fS fA) ?_
    intro rr M2 hq
    obtain ⟨-, u1, u2, u3⟩ := hq
    obtain ⟨rfl, r1, r2⟩ := u1 (by rw [e84]; exact hz0)
    rw [e84]
    show EvI X E_L_law (503, [some (.inr (.inr (some (30, 0, 0)))), some (.inr (.inr (some (7, 0, 0)))), some (.inr (.inr (some (8, 0, 0)))), some (.inl i)], [.inl (M 2 0 0 2 - 1), .inl (M 2 0 0 2 - 1)], M2) _
    refine seg_ok 1 (?_ : EvI X E_L_law (if (M 2 0 0 2 - 1) = (M 2 0 0 2 - 1) then 817 else 506, [some (.inr (.inr (some (30, 0, 0)))), some (.inr (.inr (some (7, 0, 0)))), some (.inr (.inr (some (8, 0, 0)))), some (.inl i)], [], M2) _)
    refine ev_if (fun h503 => ?_) (fun h503 => ?_)
    · exact J817 M2 (Wld_up (step_undo1 h hz0 e1 f1 r1 r2 u2 u3) (by omega) hm)
    · exact absurd rfl h503
set_option maxRecDepth 20000 in
theorem lw_c14 {Q : Option U → NM → Prop} {m i : Int} {M : NM} (h : Wld m M) (hm : m + 120 ≤ 62000) (hi : 0 ≤ i ∧ i + 4 ≤ X.1) (hX : X.1 ≤ 2048) (J817 : ∀ M2 : NM, Wld (m + 120) M2 → EvI X E_L_law (817, [some (.inr (.inr (some (30, 0, 0)))), some (.inr (.inr (some (7, 0, 0)))), some (.inr (.inr (some (8, 0, 0)))), some (.inl i)], [], M2) Q) : EvI X E_L_law (508, [some (.inr (.inr (some (30, 0, 0)))), some (.inr (.inr (some (7, 0, 0)))), some (.inr (.inr (some (8, 0, 0)))), some (.inl i)], [], M) Q := by
  refine seg_ok 6 (⟨by omega, by omega, ?_⟩ : ((-2147483648 : Int) ≤ (i + 1) ∧ (i + 1) < 2147483648) ∧ ((0 : Int) ≤ (i + 1) ∧ (i + 1) < X.1) ∧ EvI X E_L_law (514, [some (.inr (.inr (some (30, 0, 0)))), some (.inr (.inr (some (7, 0, 0)))), some (.inr (.inr (some (8, 0, 0)))), some (.inl i)], [.inl (X.2 (i + 1)), .inr (.inr (some (7, 0, 0)))], M) _)
  refine ev_cl (z := z_X7_append) (as := [.inr (.inr (some (7, 0, 0))), .inl (X.2 (i + 1))]) (rest := []) rfl (d_append h.2.2.1) ?_
  intro rr M1 hq
  obtain ⟨rfl, a1, a2, a3⟩ := hq
  have e86 : M1 8 0 0 6 = M 4 0 0 2 := by rw [a3 8 (by decide) (by decide)]; exact h.2.2.2.1
  show EvI X E_L_law (517, [some (.inr (.inr (some (30, 0, 0)))), some (.inr (.inr (some (7, 0, 0)))), some (.inr (.inr (some (8, 0, 0)))), some (.inl i)], [.inl (cif (¬ (1 ≤ (X.2 (i + 1)) ∧ (X.2 (i + 1)) ≤ 255)) (-1) (cif (M 4 0 0 2 = 120) (-3) (M 4 0 0 2 + 1)))], M1) _
  refine seg_ok 6 (⟨by omega, by omega, ?_⟩ : ((-2147483648 : Int) ≤ (i + 1) ∧ (i + 1) < 2147483648) ∧ ((0 : Int) ≤ (i + 1) ∧ (i + 1) < X.1) ∧ EvI X E_L_law (523, [some (.inr (.inr (some (30, 0, 0)))), some (.inr (.inr (some (7, 0, 0)))), some (.inr (.inr (some (8, 0, 0)))), some (.inl i)], [.inl (X.2 (i + 1)), .inr (.inr (some (8, 0, 0))), .inl (cif (¬ (1 ≤ (X.2 (i + 1)) ∧ (X.2 (i + 1)) ≤ 255)) (-1) (cif (M 4 0 0 2 = 120) (-3) (M 4 0 0 2 + 1)))], M1) _)
  refine ev_cl (z := z_X8_append) (as := [.inr (.inr (some (8, 0, 0))), .inl (X.2 (i + 1))]) (rest := [.inl (cif (¬ (1 ≤ (X.2 (i + 1)) ∧ (X.2 (i + 1)) ≤ 255)) (-1) (cif (M 4 0 0 2 = 120) (-3) (M 4 0 0 2 + 1)))]) rfl (c_append (by rw [e86]; exact h.2.2.1)) ?_
  intro rr M2 hq
  rw [e86] at hq
  obtain ⟨rfl, b1, b2, b3, b4⟩ := hq
  show EvI X E_L_law (526, [some (.inr (.inr (some (30, 0, 0)))), some (.inr (.inr (some (7, 0, 0)))), some (.inr (.inr (some (8, 0, 0)))), some (.inl i)], [.inl (cif (¬ (1 ≤ (X.2 (i + 1)) ∧ (X.2 (i + 1)) ≤ 255)) (-1) (cif (M 4 0 0 2 = 120) (-3) (M 4 0 0 2 + 1))), .inl (cif (¬ (1 ≤ (X.2 (i + 1)) ∧ (X.2 (i + 1)) ≤ 255)) (-1) (cif (M 4 0 0 2 = 120) (-3) (M 4 0 0 2 + 1)))], M2) _
  refine seg_ok 1 (?_ : EvI X E_L_law (if (cif (¬ (1 ≤ (X.2 (i + 1)) ∧ (X.2 (i + 1)) ≤ 255)) (-1) (cif (M 4 0 0 2 = 120) (-3) (M 4 0 0 2 + 1))) = (cif (¬ (1 ≤ (X.2 (i + 1)) ∧ (X.2 (i + 1)) ≤ 255)) (-1) (cif (M 4 0 0 2 = 120) (-3) (M 4 0 0 2 + 1))) then 817 else 529, [some (.inr (.inr (some (30, 0, 0)))), some (.inr (.inr (some (7, 0, 0)))), some (.inr (.inr (some (8, 0, 0)))), some (.inl i)], [], M2) _)
  refine ev_if (fun h526 => ?_) (fun h526 => ?_)
  · exact J817 M2 (Wld_up (step_append h rfl a1 a2 a3 b1 b2 b3 b4) (by omega) hm)
  · exact absurd rfl h526
set_option maxRecDepth 20000 in
theorem lw_c15 {Q : Option U → NM → Prop} {m i : Int} {M : NM} (h : Wld m M) (hm : m + 120 ≤ 62000) (hi : 0 ≤ i ∧ i + 4 ≤ X.1) (hX : X.1 ≤ 2048) (J817 : ∀ M2 : NM, Wld (m + 120) M2 → EvI X E_L_law (817, [some (.inr (.inr (some (30, 0, 0)))), some (.inr (.inr (some (7, 0, 0)))), some (.inr (.inr (some (8, 0, 0)))), some (.inl i)], [], M2) Q) : EvI X E_L_law (531, [some (.inr (.inr (some (30, 0, 0)))), some (.inr (.inr (some (7, 0, 0)))), some (.inr (.inr (some (8, 0, 0)))), some (.inl i)], [], M) Q := by
  refine seg_ok 1 (?_ : EvI X E_L_law (532, [some (.inr (.inr (some (30, 0, 0)))), some (.inr (.inr (some (7, 0, 0)))), some (.inr (.inr (some (8, 0, 0)))), some (.inl i)], [.inr (.inr (some (7, 0, 0)))], M) _)
  refine ev_cl (z := z_X7_clearText) (as := [.inr (.inr (some (7, 0, 0)))]) (rest := []) rfl d_clearText ?_
  intro rr M1 hq
  obtain ⟨rfl, rfl⟩ := hq
  have e86 : wri M 4 0 0 2 0 8 0 0 6 = M 4 0 0 2 := (congrFun (congrFun (congrFun (wri_K (by decide)) 0) 0) 6).trans h.2.2.2.1
  show EvI X E_L_law (535, [some (.inr (.inr (some (30, 0, 0)))), some (.inr (.inr (some (7, 0, 0)))), some (.inr (.inr (some (8, 0, 0)))), some (.inl i)], [.inl (M 4 0 0 2)], (wri M 4 0 0 2 0)) _
  refine seg_ok 1 (?_ : EvI X E_L_law (536, [some (.inr (.inr (some (30, 0, 0)))), some (.inr (.inr (some (7, 0, 0)))), some (.inr (.inr (some (8, 0, 0)))), some (.inl i)], [.inr (.inr (some (8, 0, 0))), .inl (M 4 0 0 2)], (wri M 4 0 0 2 0)) _)
  refine ev_cl (z := z_X8_clearText) (as := [.inr (.inr (some (8, 0, 0)))]) (rest := [.inl (M 4 0 0 2)]) rfl c_clearText ?_
  intro rr M2 hq
  rw [e86] at hq
  obtain ⟨rfl, b1, b3, b4⟩ := hq
  show EvI X E_L_law (539, [some (.inr (.inr (some (30, 0, 0)))), some (.inr (.inr (some (7, 0, 0)))), some (.inr (.inr (some (8, 0, 0)))), some (.inl i)], [.inl (M 4 0 0 2), .inl (M 4 0 0 2)], M2) _
  refine seg_ok 1 (?_ : EvI X E_L_law (if (M 4 0 0 2) = (M 4 0 0 2) then 817 else 542, [some (.inr (.inr (some (30, 0, 0)))), some (.inr (.inr (some (7, 0, 0)))), some (.inr (.inr (some (8, 0, 0)))), some (.inl i)], [], M2) _)
  refine ev_if (fun h539 => ?_) (fun h539 => ?_)
  · exact J817 M2 (Wld_up (step_clear h b1 b3 b4) (by omega) hm)
  · exact absurd rfl h539
set_option maxRecDepth 20000 in
theorem lw_c16 {Q : Option U → NM → Prop} {m i : Int} {M : NM} (h : Wld m M) (hm : m + 120 ≤ 62000) (hi : 0 ≤ i ∧ i + 4 ≤ X.1) (hX : X.1 ≤ 2048) (J817 : ∀ M2 : NM, Wld (m + 120) M2 → EvI X E_L_law (817, [some (.inr (.inr (some (30, 0, 0)))), some (.inr (.inr (some (7, 0, 0)))), some (.inr (.inr (some (8, 0, 0)))), some (.inl i)], [], M2) Q) : EvI X E_L_law (544, [some (.inr (.inr (some (30, 0, 0)))), some (.inr (.inr (some (7, 0, 0)))), some (.inr (.inr (some (8, 0, 0)))), some (.inl i)], [], M) Q := by
  refine seg_ok 1 (?_ : EvI X E_L_law (545, [some (.inr (.inr (some (30, 0, 0)))), some (.inr (.inr (some (7, 0, 0)))), some (.inr (.inr (some (8, 0, 0)))), some (.inl i)], [.inr (.inr (some (7, 0, 0)))], M) _)
  refine ev_cl (z := z_X7_run) (as := [.inr (.inr (some (7, 0, 0)))]) (rest := []) rfl (d_run (T := M 15 0 0) (L := M 4 0 0 2) rfl h.2.2.1 (fun _ _ _ => rfl) h.1.1 hm h.2.1.1 h.2.1.2.1) ?_
  intro rr M1 hq
  obtain ⟨rfl, c1, c2, kc⟩ := hq
  obtain ⟨fW, fS, fA⟩ := ref_in h (kc.1 17 stK_17 (by decide) (by decide) (by decide)) (kc.1 8 stK_8 (by decide) (by decide) (by decide))
  show EvI X E_L_law (548, [some (.inr (.inr (some (30, 0, 0)))), some (.inr (.inr (some (7, 0, 0)))), some (.inr (.inr (some (8, 0, 0)))), some (.inl i)], [.inl ((prgN (M 15 0 0) (M 4 0 0 2) 120 (sk (M 15 0 0) (M 4 0 0 2) 0) (sl M 0) 0).1)], M1) _
  refine seg_ok 1 (?_ : EvI X E_L_law (549, [some (.inr (.inr (some (30, 0, 0)))), some (.inr (.inr (some (7, 0, 0)))), some (.inr (.inr (some (8, 0, 0)))), some (.inl i)], [.inr (.inr (some (8, 0, 0))), .inl ((prgN (M 15 0 0) (M 4 0 0 2) 120 (sk (M 15 0 0) (M 4 0 0 2) 0) (sl M 0) 0).1)], M1) _)
  refine ev_cl (z := z_X8_run) (as := [.inr (.inr (some (8, 0, 0)))]) (rest := [.inl ((prgN (M 15 0 0) (M 4 0 0 2) 120 (sk (M 15 0 0) (M 4 0 0 2) 0) (sl M 0) 0).1)]) rfl (c_run (S := sl M 0) (T := M 15 0 0) (L := M 4 0 0 2) fW fS fA (by rw [kc.1 8 stK_8 (by decide) (by decide) (by decide)]; exact h.2.2.2.1) h.2.2.1 (fun k a b => by rw [kc.1 20 stK_20 (by decide) (by decide) (by decide)]; exact h.2.2.2.2 k a b) hm) ?_
  intro rr M2 hq
  obtain ⟨rfl, r1, r2, kt⟩ := hq
  show EvI X E_L_law (552, [some (.inr (.inr (some (30, 0, 0)))), some (.inr (.inr (some (7, 0, 0)))), some (.inr (.inr (some (8, 0, 0)))), some (.inl i)], [.inl ((prgN (M 15 0 0) (M 4 0 0 2) 120 (sk (M 15 0 0) (M 4 0 0 2) 0) (sl M 0) 0).1), .inl ((prgN (M 15 0 0) (M 4 0 0 2) 120 (sk (M 15 0 0) (M 4 0 0 2) 0) (sl M 0) 0).1)], M2) _
  refine seg_ok 1 (?_ : EvI X E_L_law (if (prgN (M 15 0 0) (M 4 0 0 2) 120 (sk (M 15 0 0) (M 4 0 0 2) 0) (sl M 0) 0).1 = (prgN (M 15 0 0) (M 4 0 0 2) 120 (sk (M 15 0 0) (M 4 0 0 2) 0) (sl M 0) 0).1 then 817 else 555, [some (.inr (.inr (some (30, 0, 0)))), some (.inr (.inr (some (7, 0, 0)))), some (.inr (.inr (some (8, 0, 0)))), some (.inl i)], [], M2) _)
  refine ev_if (fun h552 => ?_) (fun h552 => ?_)
  · exact J817 M2 (step_run h hm c1 c2 kc r1 r2 kt)
  · exact absurd rfl h552
set_option maxRecDepth 20000 in
theorem lw_c17 {Q : Option U → NM → Prop} {m i : Int} {M : NM} (h : Wld m M) (hm : m + 120 ≤ 62000) (hi : 0 ≤ i ∧ i + 4 ≤ X.1) (hX : X.1 ≤ 2048) (J817 : ∀ M2 : NM, Wld (m + 120) M2 → EvI X E_L_law (817, [some (.inr (.inr (some (30, 0, 0)))), some (.inr (.inr (some (7, 0, 0)))), some (.inr (.inr (some (8, 0, 0)))), some (.inl i)], [], M2) Q) : EvI X E_L_law (557, [some (.inr (.inr (some (30, 0, 0)))), some (.inr (.inr (some (7, 0, 0)))), some (.inr (.inr (some (8, 0, 0)))), some (.inl i)], [], M) Q := by
  refine seg_ok 6 (⟨by omega, by omega, ?_⟩ : ((-2147483648 : Int) ≤ (i + 1) ∧ (i + 1) < 2147483648) ∧ ((0 : Int) ≤ (i + 1) ∧ (i + 1) < X.1) ∧ EvI X E_L_law (563, [some (.inr (.inr (some (30, 0, 0)))), some (.inr (.inr (some (7, 0, 0)))), some (.inr (.inr (some (8, 0, 0)))), some (.inl i)], [.inl (X.2 (i + 1)), .inr (.inr (some (7, 0, 0)))], M) _)
  refine ev_clp (v := .inl (cif ((X.2 (i + 1)) = 13) (M 2 0 0 2) (cif ((X.2 (i + 1)) = 14) (M 4 0 0 2) (cnF (sl M 0) (X.2 (i + 1)))))) (z := z_X7_count) (as := [.inr (.inr (some (7, 0, 0))), .inl (X.2 (i + 1))]) (rest := []) rfl (d_count h.1.1) (?_ : EvI X E_L_law (566, [some (.inr (.inr (some (30, 0, 0)))), some (.inr (.inr (some (7, 0, 0)))), some (.inr (.inr (some (8, 0, 0)))), some (.inl i)], [.inl (cif ((X.2 (i + 1)) = 13) (M 2 0 0 2) (cif ((X.2 (i + 1)) = 14) (M 4 0 0 2) (cnF (sl M 0) (X.2 (i + 1)))))], M) _)
  refine seg_ok 6 (⟨by omega, by omega, ?_⟩ : ((-2147483648 : Int) ≤ (i + 1) ∧ (i + 1) < 2147483648) ∧ ((0 : Int) ≤ (i + 1) ∧ (i + 1) < X.1) ∧ EvI X E_L_law (572, [some (.inr (.inr (some (30, 0, 0)))), some (.inr (.inr (some (7, 0, 0)))), some (.inr (.inr (some (8, 0, 0)))), some (.inl i)], [.inl (X.2 (i + 1)), .inr (.inr (some (8, 0, 0))), .inl (cif ((X.2 (i + 1)) = 13) (M 2 0 0 2) (cif ((X.2 (i + 1)) = 14) (M 4 0 0 2) (cnF (sl M 0) (X.2 (i + 1)))))], M) _)
  refine ev_cl (z := z_X8_count) (as := [.inr (.inr (some (8, 0, 0))), .inl (X.2 (i + 1))]) (rest := [.inl (cif ((X.2 (i + 1)) = 13) (M 2 0 0 2) (cif ((X.2 (i + 1)) = 14) (M 4 0 0 2) (cnF (sl M 0) (X.2 (i + 1)))))]) rfl (c_count (ref_in h rfl rfl).1 (ref_in h rfl rfl).2.1 (ref_in h rfl rfl).2.2) ?_
  intro rr M2 hq
  obtain ⟨rfl, rfl⟩ := hq
  rw [h.2.1.2.2.1, h.2.2.2.1]
  show EvI X E_L_law (575, [some (.inr (.inr (some (30, 0, 0)))), some (.inr (.inr (some (7, 0, 0)))), some (.inr (.inr (some (8, 0, 0)))), some (.inl i)], [.inl (cif ((X.2 (i + 1)) = 13) (M 2 0 0 2) (cif ((X.2 (i + 1)) = 14) (M 4 0 0 2) (cnF (sl M 0) (X.2 (i + 1))))), .inl (cif ((X.2 (i + 1)) = 13) (M 2 0 0 2) (cif ((X.2 (i + 1)) = 14) (M 4 0 0 2) (cnF (sl M 0) (X.2 (i + 1)))))], (wri M 8 0 0 0 0)) _
  refine seg_ok 1 (?_ : EvI X E_L_law (if (cif ((X.2 (i + 1)) = 13) (M 2 0 0 2) (cif ((X.2 (i + 1)) = 14) (M 4 0 0 2) (cnF (sl M 0) (X.2 (i + 1))))) = (cif ((X.2 (i + 1)) = 13) (M 2 0 0 2) (cif ((X.2 (i + 1)) = 14) (M 4 0 0 2) (cnF (sl M 0) (X.2 (i + 1))))) then 817 else 578, [some (.inr (.inr (some (30, 0, 0)))), some (.inr (.inr (some (7, 0, 0)))), some (.inr (.inr (some (8, 0, 0)))), some (.inl i)], [], (wri M 8 0 0 0 0)) _)
  refine ev_if (fun h575 => ?_) (fun h575 => ?_)
  · exact J817 (wri M 8 0 0 0 0) (Wld_up (step_look h) (by omega) hm)
  · exact absurd rfl h575
set_option maxRecDepth 20000 in
theorem lw_c18 {Q : Option U → NM → Prop} {m i : Int} {M : NM} (h : Wld m M) (hm : m + 120 ≤ 62000) (hi : 0 ≤ i ∧ i + 4 ≤ X.1) (hX : X.1 ≤ 2048) (J817 : ∀ M2 : NM, Wld (m + 120) M2 → EvI X E_L_law (817, [some (.inr (.inr (some (30, 0, 0)))), some (.inr (.inr (some (7, 0, 0)))), some (.inr (.inr (some (8, 0, 0)))), some (.inl i)], [], M2) Q) : EvI X E_L_law (580, [some (.inr (.inr (some (30, 0, 0)))), some (.inr (.inr (some (7, 0, 0)))), some (.inr (.inr (some (8, 0, 0)))), some (.inl i)], [], M) Q := by
  refine seg_ok 11 (⟨by omega, by omega, by omega, by omega, ?_⟩ : ((-2147483648 : Int) ≤ (i + 1) ∧ (i + 1) < 2147483648) ∧ ((0 : Int) ≤ (i + 1) ∧ (i + 1) < X.1) ∧ ((-2147483648 : Int) ≤ (i + 2) ∧ (i + 2) < 2147483648) ∧ ((0 : Int) ≤ (i + 2) ∧ (i + 2) < X.1) ∧ EvI X E_L_law (591, [some (.inr (.inr (some (30, 0, 0)))), some (.inr (.inr (some (7, 0, 0)))), some (.inr (.inr (some (8, 0, 0)))), some (.inl i)], [.inl (X.2 (i + 2)), .inl (X.2 (i + 1)), .inr (.inr (some (7, 0, 0)))], M) _)
  refine ev_clp (v := .inl (bkF (sl M 0) (X.2 (i + 1)) (X.2 (i + 2)))) (z := z_X7_block) (as := [.inr (.inr (some (7, 0, 0))), .inl (X.2 (i + 1)), .inl (X.2 (i + 2))]) (rest := []) rfl (d_block h.1.1) (?_ : EvI X E_L_law (594, [some (.inr (.inr (some (30, 0, 0)))), some (.inr (.inr (some (7, 0, 0)))), some (.inr (.inr (some (8, 0, 0)))), some (.inl i)], [.inl (bkF (sl M 0) (X.2 (i + 1)) (X.2 (i + 2)))], M) _)
  refine seg_ok 11 (⟨by omega, by omega, by omega, by omega, ?_⟩ : ((-2147483648 : Int) ≤ (i + 1) ∧ (i + 1) < 2147483648) ∧ ((0 : Int) ≤ (i + 1) ∧ (i + 1) < X.1) ∧ ((-2147483648 : Int) ≤ (i + 2) ∧ (i + 2) < 2147483648) ∧ ((0 : Int) ≤ (i + 2) ∧ (i + 2) < X.1) ∧ EvI X E_L_law (605, [some (.inr (.inr (some (30, 0, 0)))), some (.inr (.inr (some (7, 0, 0)))), some (.inr (.inr (some (8, 0, 0)))), some (.inl i)], [.inl (X.2 (i + 2)), .inl (X.2 (i + 1)), .inr (.inr (some (8, 0, 0))), .inl (bkF (sl M 0) (X.2 (i + 1)) (X.2 (i + 2)))], M) _)
  refine ev_cl (z := z_X8_block) (as := [.inr (.inr (some (8, 0, 0))), .inl (X.2 (i + 1)), .inl (X.2 (i + 2))]) (rest := [.inl (bkF (sl M 0) (X.2 (i + 1)) (X.2 (i + 2)))]) rfl (c_block (ref_in h rfl rfl).1 (ref_in h rfl rfl).2.1 (ref_in h rfl rfl).2.2) ?_
  intro rr M2 hq
  obtain ⟨rfl, rfl⟩ := hq
  show EvI X E_L_law (608, [some (.inr (.inr (some (30, 0, 0)))), some (.inr (.inr (some (7, 0, 0)))), some (.inr (.inr (some (8, 0, 0)))), some (.inl i)], [.inl (bkF (sl M 0) (X.2 (i + 1)) (X.2 (i + 2))), .inl (bkF (sl M 0) (X.2 (i + 1)) (X.2 (i + 2)))], (wri M 8 0 0 0 0)) _
  refine seg_ok 1 (?_ : EvI X E_L_law (if (bkF (sl M 0) (X.2 (i + 1)) (X.2 (i + 2))) = (bkF (sl M 0) (X.2 (i + 1)) (X.2 (i + 2))) then 817 else 611, [some (.inr (.inr (some (30, 0, 0)))), some (.inr (.inr (some (7, 0, 0)))), some (.inr (.inr (some (8, 0, 0)))), some (.inl i)], [], (wri M 8 0 0 0 0)) _)
  refine ev_if (fun h608 => ?_) (fun h608 => ?_)
  · exact J817 (wri M 8 0 0 0 0) (Wld_up (step_look h) (by omega) hm)
  · exact absurd rfl h608
set_option maxRecDepth 20000 in
theorem lw_c19 {Q : Option U → NM → Prop} {m i : Int} {M : NM} (h : Wld m M) (hm : m + 120 ≤ 62000) (hi : 0 ≤ i ∧ i + 4 ≤ X.1) (hX : X.1 ≤ 2048) (J817 : ∀ M2 : NM, Wld (m + 120) M2 → EvI X E_L_law (817, [some (.inr (.inr (some (30, 0, 0)))), some (.inr (.inr (some (7, 0, 0)))), some (.inr (.inr (some (8, 0, 0)))), some (.inl i)], [], M2) Q) : EvI X E_L_law (613, [some (.inr (.inr (some (30, 0, 0)))), some (.inr (.inr (some (7, 0, 0)))), some (.inr (.inr (some (8, 0, 0)))), some (.inl i)], [], M) Q := by
  refine seg_ok 6 (⟨by omega, by omega, ?_⟩ : ((-2147483648 : Int) ≤ (i + 1) ∧ (i + 1) < 2147483648) ∧ ((0 : Int) ≤ (i + 1) ∧ (i + 1) < X.1) ∧ EvI X E_L_law (619, [some (.inr (.inr (some (30, 0, 0)))), some (.inr (.inr (some (7, 0, 0)))), some (.inr (.inr (some (8, 0, 0)))), some (.inl i)], [.inl (X.2 (i + 1)), .inr (.inr (some (7, 0, 0)))], M) _)
  refine ev_clp (v := .inl (chS (sl M 0) (X.2 (i + 1)))) (z := z_X7_chair) (as := [.inr (.inr (some (7, 0, 0))), .inl (X.2 (i + 1))]) (rest := []) rfl (d_chair h.1.1) (?_ : EvI X E_L_law (622, [some (.inr (.inr (some (30, 0, 0)))), some (.inr (.inr (some (7, 0, 0)))), some (.inr (.inr (some (8, 0, 0)))), some (.inl i)], [.inl (chS (sl M 0) (X.2 (i + 1)))], M) _)
  refine seg_ok 6 (⟨by omega, by omega, ?_⟩ : ((-2147483648 : Int) ≤ (i + 1) ∧ (i + 1) < 2147483648) ∧ ((0 : Int) ≤ (i + 1) ∧ (i + 1) < X.1) ∧ EvI X E_L_law (628, [some (.inr (.inr (some (30, 0, 0)))), some (.inr (.inr (some (7, 0, 0)))), some (.inr (.inr (some (8, 0, 0)))), some (.inl i)], [.inl (X.2 (i + 1)), .inr (.inr (some (8, 0, 0))), .inl (chS (sl M 0) (X.2 (i + 1)))], M) _)
  refine ev_cl (z := z_X8_chair) (as := [.inr (.inr (some (8, 0, 0))), .inl (X.2 (i + 1))]) (rest := [.inl (chS (sl M 0) (X.2 (i + 1)))]) rfl (c_chair (ref_in h rfl rfl).1 (ref_in h rfl rfl).2.1 (ref_in h rfl rfl).2.2) ?_
  intro rr M2 hq
  obtain ⟨rfl, rfl⟩ := hq
  show EvI X E_L_law (631, [some (.inr (.inr (some (30, 0, 0)))), some (.inr (.inr (some (7, 0, 0)))), some (.inr (.inr (some (8, 0, 0)))), some (.inl i)], [.inl (chS (sl M 0) (X.2 (i + 1))), .inl (chS (sl M 0) (X.2 (i + 1)))], (wri M 8 0 0 0 0)) _
  refine seg_ok 1 (?_ : EvI X E_L_law (if (chS (sl M 0) (X.2 (i + 1))) = (chS (sl M 0) (X.2 (i + 1))) then 817 else 634, [some (.inr (.inr (some (30, 0, 0)))), some (.inr (.inr (some (7, 0, 0)))), some (.inr (.inr (some (8, 0, 0)))), some (.inl i)], [], (wri M 8 0 0 0 0)) _)
  refine ev_if (fun h631 => ?_) (fun h631 => ?_)
  · exact J817 (wri M 8 0 0 0 0) (Wld_up (step_look h) (by omega) hm)
  · exact absurd rfl h631
set_option maxRecDepth 20000 in
theorem lw_c20 {Q : Option U → NM → Prop} {m i : Int} {M : NM} (h : Wld m M) (hm : m + 120 ≤ 62000) (hi : 0 ≤ i ∧ i + 4 ≤ X.1) (hX : X.1 ≤ 2048) (J817 : ∀ M2 : NM, Wld (m + 120) M2 → EvI X E_L_law (817, [some (.inr (.inr (some (30, 0, 0)))), some (.inr (.inr (some (7, 0, 0)))), some (.inr (.inr (some (8, 0, 0)))), some (.inl i)], [], M2) Q) : EvI X E_L_law (636, [some (.inr (.inr (some (30, 0, 0)))), some (.inr (.inr (some (7, 0, 0)))), some (.inr (.inr (some (8, 0, 0)))), some (.inl i)], [], M) Q := by
  refine seg_ok 11 (⟨by omega, by omega, by omega, by omega, ?_⟩ : ((-2147483648 : Int) ≤ (i + 1) ∧ (i + 1) < 2147483648) ∧ ((0 : Int) ≤ (i + 1) ∧ (i + 1) < X.1) ∧ ((-2147483648 : Int) ≤ (i + 2) ∧ (i + 2) < 2147483648) ∧ ((0 : Int) ≤ (i + 2) ∧ (i + 2) < X.1) ∧ EvI X E_L_law (647, [some (.inr (.inr (some (30, 0, 0)))), some (.inr (.inr (some (7, 0, 0)))), some (.inr (.inr (some (8, 0, 0)))), some (.inl i)], [.inl (X.2 (i + 2)), .inl (X.2 (i + 1)), .inr (.inr (some (7, 0, 0)))], M) _)
  refine ev_clp (v := .inl (cif ((0 ≤ (X.2 (i + 1)) ∧ (X.2 (i + 1)) < (sl M 0) 5 0 3) ∧ (0 ≤ (X.2 (i + 2)) ∧ (X.2 (i + 2)) ≤ 4)) ((sl M 0) 3 (X.2 (i + 1)) (X.2 (i + 2))) (-1))) (z := z_X7_holdOf) (as := [.inr (.inr (some (7, 0, 0))), .inl (X.2 (i + 1)), .inl (X.2 (i + 2))]) (rest := []) rfl (d_holdOf h.1.1) (?_ : EvI X E_L_law (650, [some (.inr (.inr (some (30, 0, 0)))), some (.inr (.inr (some (7, 0, 0)))), some (.inr (.inr (some (8, 0, 0)))), some (.inl i)], [.inl (cif ((0 ≤ (X.2 (i + 1)) ∧ (X.2 (i + 1)) < (sl M 0) 5 0 3) ∧ (0 ≤ (X.2 (i + 2)) ∧ (X.2 (i + 2)) ≤ 4)) ((sl M 0) 3 (X.2 (i + 1)) (X.2 (i + 2))) (-1))], M) _)
  refine seg_ok 11 (⟨by omega, by omega, by omega, by omega, ?_⟩ : ((-2147483648 : Int) ≤ (i + 1) ∧ (i + 1) < 2147483648) ∧ ((0 : Int) ≤ (i + 1) ∧ (i + 1) < X.1) ∧ ((-2147483648 : Int) ≤ (i + 2) ∧ (i + 2) < 2147483648) ∧ ((0 : Int) ≤ (i + 2) ∧ (i + 2) < X.1) ∧ EvI X E_L_law (661, [some (.inr (.inr (some (30, 0, 0)))), some (.inr (.inr (some (7, 0, 0)))), some (.inr (.inr (some (8, 0, 0)))), some (.inl i)], [.inl (X.2 (i + 2)), .inl (X.2 (i + 1)), .inr (.inr (some (8, 0, 0))), .inl (cif ((0 ≤ (X.2 (i + 1)) ∧ (X.2 (i + 1)) < (sl M 0) 5 0 3) ∧ (0 ≤ (X.2 (i + 2)) ∧ (X.2 (i + 2)) ≤ 4)) ((sl M 0) 3 (X.2 (i + 1)) (X.2 (i + 2))) (-1))], M) _)
  refine ev_cl (z := z_X8_holdOf) (as := [.inr (.inr (some (8, 0, 0))), .inl (X.2 (i + 1)), .inl (X.2 (i + 2))]) (rest := [.inl (cif ((0 ≤ (X.2 (i + 1)) ∧ (X.2 (i + 1)) < (sl M 0) 5 0 3) ∧ (0 ≤ (X.2 (i + 2)) ∧ (X.2 (i + 2)) ≤ 4)) ((sl M 0) 3 (X.2 (i + 1)) (X.2 (i + 2))) (-1))]) rfl (c_holdOf (ref_in h rfl rfl).1 (ref_in h rfl rfl).2.1 (ref_in h rfl rfl).2.2) ?_
  intro rr M2 hq
  obtain ⟨rfl, rfl⟩ := hq
  show EvI X E_L_law (664, [some (.inr (.inr (some (30, 0, 0)))), some (.inr (.inr (some (7, 0, 0)))), some (.inr (.inr (some (8, 0, 0)))), some (.inl i)], [.inl (cif ((0 ≤ (X.2 (i + 1)) ∧ (X.2 (i + 1)) < (sl M 0) 5 0 3) ∧ (0 ≤ (X.2 (i + 2)) ∧ (X.2 (i + 2)) ≤ 4)) ((sl M 0) 3 (X.2 (i + 1)) (X.2 (i + 2))) (-1)), .inl (cif ((0 ≤ (X.2 (i + 1)) ∧ (X.2 (i + 1)) < (sl M 0) 5 0 3) ∧ (0 ≤ (X.2 (i + 2)) ∧ (X.2 (i + 2)) ≤ 4)) ((sl M 0) 3 (X.2 (i + 1)) (X.2 (i + 2))) (-1))], (wri M 8 0 0 0 0)) _
  refine seg_ok 1 (?_ : EvI X E_L_law (if (cif ((0 ≤ (X.2 (i + 1)) ∧ (X.2 (i + 1)) < (sl M 0) 5 0 3) ∧ (0 ≤ (X.2 (i + 2)) ∧ (X.2 (i + 2)) ≤ 4)) ((sl M 0) 3 (X.2 (i + 1)) (X.2 (i + 2))) (-1)) = (cif ((0 ≤ (X.2 (i + 1)) ∧ (X.2 (i + 1)) < (sl M 0) 5 0 3) ∧ (0 ≤ (X.2 (i + 2)) ∧ (X.2 (i + 2)) ≤ 4)) ((sl M 0) 3 (X.2 (i + 1)) (X.2 (i + 2))) (-1)) then 817 else 667, [some (.inr (.inr (some (30, 0, 0)))), some (.inr (.inr (some (7, 0, 0)))), some (.inr (.inr (some (8, 0, 0)))), some (.inl i)], [], (wri M 8 0 0 0 0)) _)
  refine ev_if (fun h664 => ?_) (fun h664 => ?_)
  · exact J817 (wri M 8 0 0 0 0) (Wld_up (step_look h) (by omega) hm)
  · exact absurd rfl h664
set_option maxRecDepth 20000 in
theorem lw_c21 {Q : Option U → NM → Prop} {m i : Int} {M : NM} (h : Wld m M) (hm : m + 120 ≤ 62000) (hi : 0 ≤ i ∧ i + 4 ≤ X.1) (hX : X.1 ≤ 2048) (J817 : ∀ M2 : NM, Wld (m + 120) M2 → EvI X E_L_law (817, [some (.inr (.inr (some (30, 0, 0)))), some (.inr (.inr (some (7, 0, 0)))), some (.inr (.inr (some (8, 0, 0)))), some (.inl i)], [], M2) Q) : EvI X E_L_law (669, [some (.inr (.inr (some (30, 0, 0)))), some (.inr (.inr (some (7, 0, 0)))), some (.inr (.inr (some (8, 0, 0)))), some (.inl i)], [], M) Q := by
  refine seg_ok 11 (⟨by omega, by omega, by omega, by omega, ?_⟩ : ((-2147483648 : Int) ≤ (i + 1) ∧ (i + 1) < 2147483648) ∧ ((0 : Int) ≤ (i + 1) ∧ (i + 1) < X.1) ∧ ((-2147483648 : Int) ≤ (i + 2) ∧ (i + 2) < 2147483648) ∧ ((0 : Int) ≤ (i + 2) ∧ (i + 2) < X.1) ∧ EvI X E_L_law (680, [some (.inr (.inr (some (30, 0, 0)))), some (.inr (.inr (some (7, 0, 0)))), some (.inr (.inr (some (8, 0, 0)))), some (.inl i)], [.inl (X.2 (i + 2)), .inl (X.2 (i + 1)), .inr (.inr (some (7, 0, 0)))], M) _)
  refine ev_clp (v := .inl (cif ((0 ≤ (X.2 (i + 1)) ∧ (X.2 (i + 1)) < (sl M 0) 5 0 4) ∧ (0 ≤ (X.2 (i + 2)) ∧ (X.2 (i + 2)) ≤ 4)) ((sl M 0) 6 (X.2 (i + 1)) (X.2 (i + 2))) (-1))) (z := z_X7_ticket) (as := [.inr (.inr (some (7, 0, 0))), .inl (X.2 (i + 1)), .inl (X.2 (i + 2))]) (rest := []) rfl (d_ticket h.1.1) (?_ : EvI X E_L_law (683, [some (.inr (.inr (some (30, 0, 0)))), some (.inr (.inr (some (7, 0, 0)))), some (.inr (.inr (some (8, 0, 0)))), some (.inl i)], [.inl (cif ((0 ≤ (X.2 (i + 1)) ∧ (X.2 (i + 1)) < (sl M 0) 5 0 4) ∧ (0 ≤ (X.2 (i + 2)) ∧ (X.2 (i + 2)) ≤ 4)) ((sl M 0) 6 (X.2 (i + 1)) (X.2 (i + 2))) (-1))], M) _)
  refine seg_ok 11 (⟨by omega, by omega, by omega, by omega, ?_⟩ : ((-2147483648 : Int) ≤ (i + 1) ∧ (i + 1) < 2147483648) ∧ ((0 : Int) ≤ (i + 1) ∧ (i + 1) < X.1) ∧ ((-2147483648 : Int) ≤ (i + 2) ∧ (i + 2) < 2147483648) ∧ ((0 : Int) ≤ (i + 2) ∧ (i + 2) < X.1) ∧ EvI X E_L_law (694, [some (.inr (.inr (some (30, 0, 0)))), some (.inr (.inr (some (7, 0, 0)))), some (.inr (.inr (some (8, 0, 0)))), some (.inl i)], [.inl (X.2 (i + 2)), .inl (X.2 (i + 1)), .inr (.inr (some (8, 0, 0))), .inl (cif ((0 ≤ (X.2 (i + 1)) ∧ (X.2 (i + 1)) < (sl M 0) 5 0 4) ∧ (0 ≤ (X.2 (i + 2)) ∧ (X.2 (i + 2)) ≤ 4)) ((sl M 0) 6 (X.2 (i + 1)) (X.2 (i + 2))) (-1))], M) _)
  refine ev_cl (z := z_X8_ticket) (as := [.inr (.inr (some (8, 0, 0))), .inl (X.2 (i + 1)), .inl (X.2 (i + 2))]) (rest := [.inl (cif ((0 ≤ (X.2 (i + 1)) ∧ (X.2 (i + 1)) < (sl M 0) 5 0 4) ∧ (0 ≤ (X.2 (i + 2)) ∧ (X.2 (i + 2)) ≤ 4)) ((sl M 0) 6 (X.2 (i + 1)) (X.2 (i + 2))) (-1))]) rfl (c_ticket (ref_in h rfl rfl).1 (ref_in h rfl rfl).2.1 (ref_in h rfl rfl).2.2) ?_
  intro rr M2 hq
  obtain ⟨rfl, rfl⟩ := hq
  show EvI X E_L_law (697, [some (.inr (.inr (some (30, 0, 0)))), some (.inr (.inr (some (7, 0, 0)))), some (.inr (.inr (some (8, 0, 0)))), some (.inl i)], [.inl (cif ((0 ≤ (X.2 (i + 1)) ∧ (X.2 (i + 1)) < (sl M 0) 5 0 4) ∧ (0 ≤ (X.2 (i + 2)) ∧ (X.2 (i + 2)) ≤ 4)) ((sl M 0) 6 (X.2 (i + 1)) (X.2 (i + 2))) (-1)), .inl (cif ((0 ≤ (X.2 (i + 1)) ∧ (X.2 (i + 1)) < (sl M 0) 5 0 4) ∧ (0 ≤ (X.2 (i + 2)) ∧ (X.2 (i + 2)) ≤ 4)) ((sl M 0) 6 (X.2 (i + 1)) (X.2 (i + 2))) (-1))], (wri M 8 0 0 0 0)) _
  refine seg_ok 1 (?_ : EvI X E_L_law (if (cif ((0 ≤ (X.2 (i + 1)) ∧ (X.2 (i + 1)) < (sl M 0) 5 0 4) ∧ (0 ≤ (X.2 (i + 2)) ∧ (X.2 (i + 2)) ≤ 4)) ((sl M 0) 6 (X.2 (i + 1)) (X.2 (i + 2))) (-1)) = (cif ((0 ≤ (X.2 (i + 1)) ∧ (X.2 (i + 1)) < (sl M 0) 5 0 4) ∧ (0 ≤ (X.2 (i + 2)) ∧ (X.2 (i + 2)) ≤ 4)) ((sl M 0) 6 (X.2 (i + 1)) (X.2 (i + 2))) (-1)) then 817 else 700, [some (.inr (.inr (some (30, 0, 0)))), some (.inr (.inr (some (7, 0, 0)))), some (.inr (.inr (some (8, 0, 0)))), some (.inl i)], [], (wri M 8 0 0 0 0)) _)
  refine ev_if (fun h697 => ?_) (fun h697 => ?_)
  · exact J817 (wri M 8 0 0 0 0) (Wld_up (step_look h) (by omega) hm)
  · exact absurd rfl h697
set_option maxRecDepth 20000 in
theorem lw_c22 {Q : Option U → NM → Prop} {m i : Int} {M : NM} (h : Wld m M) (hm : m + 120 ≤ 62000) (hi : 0 ≤ i ∧ i + 4 ≤ X.1) (hX : X.1 ≤ 2048) (J817 : ∀ M2 : NM, Wld (m + 120) M2 → EvI X E_L_law (817, [some (.inr (.inr (some (30, 0, 0)))), some (.inr (.inr (some (7, 0, 0)))), some (.inr (.inr (some (8, 0, 0)))), some (.inl i)], [], M2) Q) : EvI X E_L_law (702, [some (.inr (.inr (some (30, 0, 0)))), some (.inr (.inr (some (7, 0, 0)))), some (.inr (.inr (some (8, 0, 0)))), some (.inl i)], [], M) Q := by
  refine seg_ok 11 (⟨by omega, by omega, by omega, by omega, ?_⟩ : ((-2147483648 : Int) ≤ (i + 1) ∧ (i + 1) < 2147483648) ∧ ((0 : Int) ≤ (i + 1) ∧ (i + 1) < X.1) ∧ ((-2147483648 : Int) ≤ (i + 2) ∧ (i + 2) < 2147483648) ∧ ((0 : Int) ≤ (i + 2) ∧ (i + 2) < X.1) ∧ EvI X E_L_law (713, [some (.inr (.inr (some (30, 0, 0)))), some (.inr (.inr (some (7, 0, 0)))), some (.inr (.inr (some (8, 0, 0)))), some (.inl i)], [.inl (X.2 (i + 2)), .inl (X.2 (i + 1)), .inr (.inr (some (7, 0, 0)))], M) _)
  refine ev_clp (v := .inl (cif ((0 ≤ (X.2 (i + 1)) ∧ (X.2 (i + 1)) < (sl M 0) 1 0 3) ∧ (1 ≤ (X.2 (i + 2)) ∧ (X.2 (i + 2)) ≤ 10)) (pl (sl M 0) (X.2 (i + 1)) (X.2 (i + 2))) (-1))) (z := z_X7_place) (as := [.inr (.inr (some (7, 0, 0))), .inl (X.2 (i + 1)), .inl (X.2 (i + 2))]) (rest := []) rfl (d_place h.1.1) (?_ : EvI X E_L_law (716, [some (.inr (.inr (some (30, 0, 0)))), some (.inr (.inr (some (7, 0, 0)))), some (.inr (.inr (some (8, 0, 0)))), some (.inl i)], [.inl (cif ((0 ≤ (X.2 (i + 1)) ∧ (X.2 (i + 1)) < (sl M 0) 1 0 3) ∧ (1 ≤ (X.2 (i + 2)) ∧ (X.2 (i + 2)) ≤ 10)) (pl (sl M 0) (X.2 (i + 1)) (X.2 (i + 2))) (-1))], M) _)
  refine seg_ok 11 (⟨by omega, by omega, by omega, by omega, ?_⟩ : ((-2147483648 : Int) ≤ (i + 1) ∧ (i + 1) < 2147483648) ∧ ((0 : Int) ≤ (i + 1) ∧ (i + 1) < X.1) ∧ ((-2147483648 : Int) ≤ (i + 2) ∧ (i + 2) < 2147483648) ∧ ((0 : Int) ≤ (i + 2) ∧ (i + 2) < X.1) ∧ EvI X E_L_law (727, [some (.inr (.inr (some (30, 0, 0)))), some (.inr (.inr (some (7, 0, 0)))), some (.inr (.inr (some (8, 0, 0)))), some (.inl i)], [.inl (X.2 (i + 2)), .inl (X.2 (i + 1)), .inr (.inr (some (8, 0, 0))), .inl (cif ((0 ≤ (X.2 (i + 1)) ∧ (X.2 (i + 1)) < (sl M 0) 1 0 3) ∧ (1 ≤ (X.2 (i + 2)) ∧ (X.2 (i + 2)) ≤ 10)) (pl (sl M 0) (X.2 (i + 1)) (X.2 (i + 2))) (-1))], M) _)
  refine ev_cl (z := z_X8_place) (as := [.inr (.inr (some (8, 0, 0))), .inl (X.2 (i + 1)), .inl (X.2 (i + 2))]) (rest := [.inl (cif ((0 ≤ (X.2 (i + 1)) ∧ (X.2 (i + 1)) < (sl M 0) 1 0 3) ∧ (1 ≤ (X.2 (i + 2)) ∧ (X.2 (i + 2)) ≤ 10)) (pl (sl M 0) (X.2 (i + 1)) (X.2 (i + 2))) (-1))]) rfl (c_place (ref_in h rfl rfl).1 (ref_in h rfl rfl).2.1 (ref_in h rfl rfl).2.2) ?_
  intro rr M2 hq
  obtain ⟨rfl, rfl⟩ := hq
  show EvI X E_L_law (730, [some (.inr (.inr (some (30, 0, 0)))), some (.inr (.inr (some (7, 0, 0)))), some (.inr (.inr (some (8, 0, 0)))), some (.inl i)], [.inl (cif ((0 ≤ (X.2 (i + 1)) ∧ (X.2 (i + 1)) < (sl M 0) 1 0 3) ∧ (1 ≤ (X.2 (i + 2)) ∧ (X.2 (i + 2)) ≤ 10)) (pl (sl M 0) (X.2 (i + 1)) (X.2 (i + 2))) (-1)), .inl (cif ((0 ≤ (X.2 (i + 1)) ∧ (X.2 (i + 1)) < (sl M 0) 1 0 3) ∧ (1 ≤ (X.2 (i + 2)) ∧ (X.2 (i + 2)) ≤ 10)) (pl (sl M 0) (X.2 (i + 1)) (X.2 (i + 2))) (-1))], (wri M 8 0 0 0 0)) _
  refine seg_ok 1 (?_ : EvI X E_L_law (if (cif ((0 ≤ (X.2 (i + 1)) ∧ (X.2 (i + 1)) < (sl M 0) 1 0 3) ∧ (1 ≤ (X.2 (i + 2)) ∧ (X.2 (i + 2)) ≤ 10)) (pl (sl M 0) (X.2 (i + 1)) (X.2 (i + 2))) (-1)) = (cif ((0 ≤ (X.2 (i + 1)) ∧ (X.2 (i + 1)) < (sl M 0) 1 0 3) ∧ (1 ≤ (X.2 (i + 2)) ∧ (X.2 (i + 2)) ≤ 10)) (pl (sl M 0) (X.2 (i + 1)) (X.2 (i + 2))) (-1)) then 817 else 733, [some (.inr (.inr (some (30, 0, 0)))), some (.inr (.inr (some (7, 0, 0)))), some (.inr (.inr (some (8, 0, 0)))), some (.inl i)], [], (wri M 8 0 0 0 0)) _)
  refine ev_if (fun h730 => ?_) (fun h730 => ?_)
  · exact J817 (wri M 8 0 0 0 0) (Wld_up (step_look h) (by omega) hm)
  · exact absurd rfl h730
set_option maxRecDepth 20000 in
theorem lw_c23 {Q : Option U → NM → Prop} {m i : Int} {M : NM} (h : Wld m M) (hm : m + 120 ≤ 62000) (hi : 0 ≤ i ∧ i + 4 ≤ X.1) (hX : X.1 ≤ 2048) (J817 : ∀ M2 : NM, Wld (m + 120) M2 → EvI X E_L_law (817, [some (.inr (.inr (some (30, 0, 0)))), some (.inr (.inr (some (7, 0, 0)))), some (.inr (.inr (some (8, 0, 0)))), some (.inl i)], [], M2) Q) : EvI X E_L_law (735, [some (.inr (.inr (some (30, 0, 0)))), some (.inr (.inr (some (7, 0, 0)))), some (.inr (.inr (some (8, 0, 0)))), some (.inl i)], [], M) Q := by
  refine seg_ok 6 (⟨by omega, by omega, ?_⟩ : ((-2147483648 : Int) ≤ (i + 1) ∧ (i + 1) < 2147483648) ∧ ((0 : Int) ≤ (i + 1) ∧ (i + 1) < X.1) ∧ EvI X E_L_law (741, [some (.inr (.inr (some (30, 0, 0)))), some (.inr (.inr (some (7, 0, 0)))), some (.inr (.inr (some (8, 0, 0)))), some (.inl i)], [.inl (X.2 (i + 1)), .inr (.inr (some (7, 0, 0)))], M) _)
  refine ev_clp (v := .inl (nkF (sl M 0) (X.2 (i + 1)))) (z := z_X7_wouldKill) (as := [.inr (.inr (some (7, 0, 0))), .inl (X.2 (i + 1))]) (rest := []) rfl (d_wouldKill h.1.1) (?_ : EvI X E_L_law (744, [some (.inr (.inr (some (30, 0, 0)))), some (.inr (.inr (some (7, 0, 0)))), some (.inr (.inr (some (8, 0, 0)))), some (.inl i)], [.inl (nkF (sl M 0) (X.2 (i + 1)))], M) _)
  refine seg_ok 6 (⟨by omega, by omega, ?_⟩ : ((-2147483648 : Int) ≤ (i + 1) ∧ (i + 1) < 2147483648) ∧ ((0 : Int) ≤ (i + 1) ∧ (i + 1) < X.1) ∧ EvI X E_L_law (750, [some (.inr (.inr (some (30, 0, 0)))), some (.inr (.inr (some (7, 0, 0)))), some (.inr (.inr (some (8, 0, 0)))), some (.inl i)], [.inl (X.2 (i + 1)), .inr (.inr (some (8, 0, 0))), .inl (nkF (sl M 0) (X.2 (i + 1)))], M) _)
  refine ev_cl (z := z_X8_wouldKill) (as := [.inr (.inr (some (8, 0, 0))), .inl (X.2 (i + 1))]) (rest := [.inl (nkF (sl M 0) (X.2 (i + 1)))]) rfl (c_wouldKill (ref_in h rfl rfl).1 (ref_in h rfl rfl).2.1 (ref_in h rfl rfl).2.2) ?_
  intro rr M2 hq
  obtain ⟨rfl, rfl⟩ := hq
  show EvI X E_L_law (753, [some (.inr (.inr (some (30, 0, 0)))), some (.inr (.inr (some (7, 0, 0)))), some (.inr (.inr (some (8, 0, 0)))), some (.inl i)], [.inl (nkF (sl M 0) (X.2 (i + 1))), .inl (nkF (sl M 0) (X.2 (i + 1)))], (wri M 8 0 0 0 0)) _
  refine seg_ok 1 (?_ : EvI X E_L_law (if (nkF (sl M 0) (X.2 (i + 1))) = (nkF (sl M 0) (X.2 (i + 1))) then 817 else 756, [some (.inr (.inr (some (30, 0, 0)))), some (.inr (.inr (some (7, 0, 0)))), some (.inr (.inr (some (8, 0, 0)))), some (.inl i)], [], (wri M 8 0 0 0 0)) _)
  refine ev_if (fun h753 => ?_) (fun h753 => ?_)
  · exact J817 (wri M 8 0 0 0 0) (Wld_up (step_look h) (by omega) hm)
  · exact absurd rfl h753
set_option maxRecDepth 20000 in
theorem lw_c24 {Q : Option U → NM → Prop} {m i : Int} {M : NM} (h : Wld m M) (hm : m + 120 ≤ 62000) (hi : 0 ≤ i ∧ i + 4 ≤ X.1) (hX : X.1 ≤ 2048) (J817 : ∀ M2 : NM, Wld (m + 120) M2 → EvI X E_L_law (817, [some (.inr (.inr (some (30, 0, 0)))), some (.inr (.inr (some (7, 0, 0)))), some (.inr (.inr (some (8, 0, 0)))), some (.inl i)], [], M2) Q) : EvI X E_L_law (758, [some (.inr (.inr (some (30, 0, 0)))), some (.inr (.inr (some (7, 0, 0)))), some (.inr (.inr (some (8, 0, 0)))), some (.inl i)], [], M) Q := by
  refine seg_ok 6 (⟨by omega, by omega, ?_⟩ : ((-2147483648 : Int) ≤ (i + 1) ∧ (i + 1) < 2147483648) ∧ ((0 : Int) ≤ (i + 1) ∧ (i + 1) < X.1) ∧ EvI X E_L_law (764, [some (.inr (.inr (some (30, 0, 0)))), some (.inr (.inr (some (7, 0, 0)))), some (.inr (.inr (some (8, 0, 0)))), some (.inl i)], [.inl (X.2 (i + 1)), .inr (.inr (some (7, 0, 0)))], M) _)
  refine ev_cl (z := z_X7_chain) (as := [.inr (.inr (some (7, 0, 0))), .inl (X.2 (i + 1))]) (rest := []) rfl (d_chain h.1.1 (by omega)) ?_
  intro rr M1 hq
  obtain ⟨rfl, f1⟩ := hq
  obtain ⟨fW, fS, fA⟩ := ref_in h (FR_K f1 stK_17) (FR_K f1 stK_8)
  show EvI X E_L_law (767, [some (.inr (.inr (some (30, 0, 0)))), some (.inr (.inr (some (7, 0, 0)))), some (.inr (.inr (some (8, 0, 0)))), some (.inl i)], [.inl (cif (0 ≤ (X.2 (i + 1)) ∧ (X.2 (i + 1)) < (sl M 0) 5 0 4) (opChain (sl M 0) (X.2 (i + 1))).1 (-1))], M1) _
  refine seg_ok 6 (⟨by omega, by omega, ?_⟩ : ((-2147483648 : Int) ≤ (i + 1) ∧ (i + 1) < 2147483648) ∧ ((0 : Int) ≤ (i + 1) ∧ (i + 1) < X.1) ∧ EvI X E_L_law (773, [some (.inr (.inr (some (30, 0, 0)))), some (.inr (.inr (some (7, 0, 0)))), some (.inr (.inr (some (8, 0, 0)))), some (.inl i)], [.inl (X.2 (i + 1)), .inr (.inr (some (8, 0, 0))), .inl (cif (0 ≤ (X.2 (i + 1)) ∧ (X.2 (i + 1)) < (sl M 0) 5 0 4) (opChain (sl M 0) (X.2 (i + 1))).1 (-1))], M1) _)
  refine ev_cl (z := z_X8_chain) (as := [.inr (.inr (some (8, 0, 0))), .inl (X.2 (i + 1))]) (rest := [.inl (cif (0 ≤ (X.2 (i + 1)) ∧ (X.2 (i + 1)) < (sl M 0) 5 0 4) (opChain (sl M 0) (X.2 (i + 1))).1 (-1))]) rfl (c_chain fW fS fA (by omega)) ?_
  intro rr M2 hq
  obtain ⟨rfl, p2, p3, p4⟩ := hq
  show EvI X E_L_law (776, [some (.inr (.inr (some (30, 0, 0)))), some (.inr (.inr (some (7, 0, 0)))), some (.inr (.inr (some (8, 0, 0)))), some (.inl i)], [.inl (cif (0 ≤ (X.2 (i + 1)) ∧ (X.2 (i + 1)) < (sl M 0) 5 0 4) (opChain (sl M 0) (X.2 (i + 1))).1 (-1)), .inl (cif (0 ≤ (X.2 (i + 1)) ∧ (X.2 (i + 1)) < (sl M 0) 5 0 4) (opChain (sl M 0) (X.2 (i + 1))).1 (-1))], M2) _
  refine seg_ok 1 (?_ : EvI X E_L_law (if (cif (0 ≤ (X.2 (i + 1)) ∧ (X.2 (i + 1)) < (sl M 0) 5 0 4) (opChain (sl M 0) (X.2 (i + 1))).1 (-1)) = (cif (0 ≤ (X.2 (i + 1)) ∧ (X.2 (i + 1)) < (sl M 0) 5 0 4) (opChain (sl M 0) (X.2 (i + 1))).1 (-1)) then 817 else 779, [some (.inr (.inr (some (30, 0, 0)))), some (.inr (.inr (some (7, 0, 0)))), some (.inr (.inr (some (8, 0, 0)))), some (.inl i)], [], M2) _)
  refine ev_if (fun h776 => ?_) (fun h776 => ?_)
  · exact J817 M2 (Wld_up (step_chain h f1 p2 p3 p4) (by omega) hm)
  · exact absurd rfl h776
set_option maxRecDepth 20000 in
theorem lw_c25 {Q : Option U → NM → Prop} {m i : Int} {M : NM} (h : Wld m M) (hm : m + 120 ≤ 62000) (hi : 0 ≤ i ∧ i + 4 ≤ X.1) (hX : X.1 ≤ 2048) (J817 : ∀ M2 : NM, Wld (m + 120) M2 → EvI X E_L_law (817, [some (.inr (.inr (some (30, 0, 0)))), some (.inr (.inr (some (7, 0, 0)))), some (.inr (.inr (some (8, 0, 0)))), some (.inl i)], [], M2) Q) : EvI X E_L_law (781, [some (.inr (.inr (some (30, 0, 0)))), some (.inr (.inr (some (7, 0, 0)))), some (.inr (.inr (some (8, 0, 0)))), some (.inl i)], [], M) Q := by
  refine seg_ok 6 (⟨by omega, by omega, ?_⟩ : ((-2147483648 : Int) ≤ (i + 1) ∧ (i + 1) < 2147483648) ∧ ((0 : Int) ≤ (i + 1) ∧ (i + 1) < X.1) ∧ EvI X E_L_law (787, [some (.inr (.inr (some (30, 0, 0)))), some (.inr (.inr (some (7, 0, 0)))), some (.inr (.inr (some (8, 0, 0)))), some (.inl i)], [.inl (X.2 (i + 1)), .inr (.inr (some (7, 0, 0)))], M) _)
  refine ev_clp (v := .inl (cif (1 ≤ (X.2 (i + 1)) ∧ (X.2 (i + 1)) ≤ 10) (chN (sl M 0) (X.2 (i + 1)) ((sl M 0) 1 0 3).toNat) (-1))) (z := z_X7_cheapest) (as := [.inr (.inr (some (7, 0, 0))), .inl (X.2 (i + 1))]) (rest := []) rfl (d_cheapest h.1.1) (?_ : EvI X E_L_law (790, [some (.inr (.inr (some (30, 0, 0)))), some (.inr (.inr (some (7, 0, 0)))), some (.inr (.inr (some (8, 0, 0)))), some (.inl i)], [.inl (cif (1 ≤ (X.2 (i + 1)) ∧ (X.2 (i + 1)) ≤ 10) (chN (sl M 0) (X.2 (i + 1)) ((sl M 0) 1 0 3).toNat) (-1))], M) _)
  refine seg_ok 6 (⟨by omega, by omega, ?_⟩ : ((-2147483648 : Int) ≤ (i + 1) ∧ (i + 1) < 2147483648) ∧ ((0 : Int) ≤ (i + 1) ∧ (i + 1) < X.1) ∧ EvI X E_L_law (796, [some (.inr (.inr (some (30, 0, 0)))), some (.inr (.inr (some (7, 0, 0)))), some (.inr (.inr (some (8, 0, 0)))), some (.inl i)], [.inl (X.2 (i + 1)), .inr (.inr (some (8, 0, 0))), .inl (cif (1 ≤ (X.2 (i + 1)) ∧ (X.2 (i + 1)) ≤ 10) (chN (sl M 0) (X.2 (i + 1)) ((sl M 0) 1 0 3).toNat) (-1))], M) _)
  refine ev_cl (z := z_X8_cheapest) (as := [.inr (.inr (some (8, 0, 0))), .inl (X.2 (i + 1))]) (rest := [.inl (cif (1 ≤ (X.2 (i + 1)) ∧ (X.2 (i + 1)) ≤ 10) (chN (sl M 0) (X.2 (i + 1)) ((sl M 0) 1 0 3).toNat) (-1))]) rfl (c_cheapest (ref_in h rfl rfl).1 (ref_in h rfl rfl).2.1 (ref_in h rfl rfl).2.2) ?_
  intro rr M2 hq
  obtain ⟨rfl, rfl⟩ := hq
  show EvI X E_L_law (799, [some (.inr (.inr (some (30, 0, 0)))), some (.inr (.inr (some (7, 0, 0)))), some (.inr (.inr (some (8, 0, 0)))), some (.inl i)], [.inl (cif (1 ≤ (X.2 (i + 1)) ∧ (X.2 (i + 1)) ≤ 10) (chN (sl M 0) (X.2 (i + 1)) ((sl M 0) 1 0 3).toNat) (-1)), .inl (cif (1 ≤ (X.2 (i + 1)) ∧ (X.2 (i + 1)) ≤ 10) (chN (sl M 0) (X.2 (i + 1)) ((sl M 0) 1 0 3).toNat) (-1))], (wri M 8 0 0 0 0)) _
  refine seg_ok 1 (?_ : EvI X E_L_law (if (cif (1 ≤ (X.2 (i + 1)) ∧ (X.2 (i + 1)) ≤ 10) (chN (sl M 0) (X.2 (i + 1)) ((sl M 0) 1 0 3).toNat) (-1)) = (cif (1 ≤ (X.2 (i + 1)) ∧ (X.2 (i + 1)) ≤ 10) (chN (sl M 0) (X.2 (i + 1)) ((sl M 0) 1 0 3).toNat) (-1)) then 817 else 802, [some (.inr (.inr (some (30, 0, 0)))), some (.inr (.inr (some (7, 0, 0)))), some (.inr (.inr (some (8, 0, 0)))), some (.inl i)], [], (wri M 8 0 0 0 0)) _)
  refine ev_if (fun h799 => ?_) (fun h799 => ?_)
  · exact J817 (wri M 8 0 0 0 0) (Wld_up (step_look h) (by omega) hm)
  · exact absurd rfl h799
set_option maxRecDepth 20000 in
theorem lw_c26 {Q : Option U → NM → Prop} {m i : Int} {M : NM} (h : Wld m M) (hm : m + 120 ≤ 62000) (hi : 0 ≤ i ∧ i + 4 ≤ X.1) (hX : X.1 ≤ 2048) (J817 : ∀ M2 : NM, Wld (m + 120) M2 → EvI X E_L_law (817, [some (.inr (.inr (some (30, 0, 0)))), some (.inr (.inr (some (7, 0, 0)))), some (.inr (.inr (some (8, 0, 0)))), some (.inl i)], [], M2) Q) : EvI X E_L_law (804, [some (.inr (.inr (some (30, 0, 0)))), some (.inr (.inr (some (7, 0, 0)))), some (.inr (.inr (some (8, 0, 0)))), some (.inl i)], [], M) Q := by
  refine seg_ok 1 (?_ : EvI X E_L_law (805, [some (.inr (.inr (some (30, 0, 0)))), some (.inr (.inr (some (7, 0, 0)))), some (.inr (.inr (some (8, 0, 0)))), some (.inl i)], [.inr (.inr (some (7, 0, 0)))], M) _)
  refine ev_clp (v := .inl (neN (sl M 0) ((sl M 0) 5 0 3).toNat)) (z := z_X7_nextExpiry) (as := [.inr (.inr (some (7, 0, 0)))]) (rest := []) rfl (d_nextExpiry h.1.1) (?_ : EvI X E_L_law (808, [some (.inr (.inr (some (30, 0, 0)))), some (.inr (.inr (some (7, 0, 0)))), some (.inr (.inr (some (8, 0, 0)))), some (.inl i)], [.inl (neN (sl M 0) ((sl M 0) 5 0 3).toNat)], M) _)
  refine seg_ok 1 (?_ : EvI X E_L_law (809, [some (.inr (.inr (some (30, 0, 0)))), some (.inr (.inr (some (7, 0, 0)))), some (.inr (.inr (some (8, 0, 0)))), some (.inl i)], [.inr (.inr (some (8, 0, 0))), .inl (neN (sl M 0) ((sl M 0) 5 0 3).toNat)], M) _)
  refine ev_cl (z := z_X8_nextExpiry) (as := [.inr (.inr (some (8, 0, 0)))]) (rest := [.inl (neN (sl M 0) ((sl M 0) 5 0 3).toNat)]) rfl (c_nextExpiry (ref_in h rfl rfl).1 (ref_in h rfl rfl).2.1 (ref_in h rfl rfl).2.2) ?_
  intro rr M2 hq
  obtain ⟨rfl, rfl⟩ := hq
  show EvI X E_L_law (812, [some (.inr (.inr (some (30, 0, 0)))), some (.inr (.inr (some (7, 0, 0)))), some (.inr (.inr (some (8, 0, 0)))), some (.inl i)], [.inl (neN (sl M 0) ((sl M 0) 5 0 3).toNat), .inl (neN (sl M 0) ((sl M 0) 5 0 3).toNat)], (wri M 8 0 0 0 0)) _
  refine seg_ok 1 (?_ : EvI X E_L_law (if (neN (sl M 0) ((sl M 0) 5 0 3).toNat) = (neN (sl M 0) ((sl M 0) 5 0 3).toNat) then 817 else 815, [some (.inr (.inr (some (30, 0, 0)))), some (.inr (.inr (some (7, 0, 0)))), some (.inr (.inr (some (8, 0, 0)))), some (.inl i)], [], (wri M 8 0 0 0 0)) _)
  refine ev_if (fun h812 => ?_) (fun h812 => ?_)
  · exact J817 (wri M 8 0 0 0 0) (Wld_up (step_look h) (by omega) hm)
  · exact absurd rfl h812
end
