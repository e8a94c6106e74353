/-! 52: the law: its loop -/
section
variable {X : XI}
set_option maxRecDepth 20000 in
theorem lw_loop (hX : 0 ≤ X.1 ∧ X.1 ≤ 2048) : ∀ (n : Nat) (i : Int) (M : NM), X.1 - i < (n : Int) → 0 ≤ i → Wld (30 * i) M → EvI X E_L_law (18, [some (.inr (.inr (some (30, 0, 0)))), some (.inr (.inr (some (7, 0, 0)))), some (.inr (.inr (some (8, 0, 0)))), some (.inl i)], [], M) (fun rr _ => rr = some (.inl 1)) := by
  intro n
  induction n with
  | zero =>
    intro i M hn hi h
    refine seg_ok 6 (⟨by omega, ?_⟩ : i32 (X.1 - 4) ∧ EvI X E_L_law (if X.1 - 4 < i then 823 else 26, [some (.inr (.inr (some (30, 0, 0)))), some (.inr (.inr (some (7, 0, 0)))), some (.inr (.inr (some (8, 0, 0)))), some (.inl i)], [], M) _)
    refine ev_if (fun h23 => ?_) (fun h23 => absurd h23 (by omega))
    refine seg_ok 1 (?_ : EvI X E_L_law (824, [some (.inr (.inr (some (30, 0, 0)))), some (.inr (.inr (some (7, 0, 0)))), some (.inr (.inr (some (8, 0, 0)))), some (.inl i)], [.inl 1], M) _)
    exact ev_rt (r := some (.inl 1)) rfl ⟨Or.inr rfl, rfl⟩
  | succ n ih =>
    intro i M hn hi h
    refine seg_ok 6 (⟨by omega, ?_⟩ : i32 (X.1 - 4) ∧ EvI X E_L_law (if X.1 - 4 < i then 823 else 26, [some (.inr (.inr (some (30, 0, 0)))), some (.inr (.inr (some (7, 0, 0)))), some (.inr (.inr (some (8, 0, 0)))), some (.inl i)], [], M) _)
    refine ev_if (fun h23 => ?_) (fun h23 => ?_)
    · refine seg_ok 1 (?_ : EvI X E_L_law (824, [some (.inr (.inr (some (30, 0, 0)))), some (.inr (.inr (some (7, 0, 0)))), some (.inr (.inr (some (8, 0, 0)))), some (.inl i)], [.inl 1], M) _)
      exact ev_rt (r := some (.inl 1)) rfl ⟨Or.inr rfl, rfl⟩
    · have hm : 30 * i + 120 ≤ 62000 := by omega
      have hi4 : 0 ≤ i ∧ i + 4 ≤ X.1 := by omega
      have hX2 : X.1 ≤ 2048 := hX.2
      have J : ∀ M2 : NM, Wld (30 * i + 120) M2 → EvI X E_L_law (817, [some (.inr (.inr (some (30, 0, 0)))), some (.inr (.inr (some (7, 0, 0)))), some (.inr (.inr (some (8, 0, 0)))), some (.inl i)], [], M2) (fun rr _ => rr = some (.inl 1)) := by
        intro M2 hW
        refine seg_ok 2 (⟨by omega, ?_⟩ : i32 (i + 4) ∧ EvI X E_L_law (18, [some (.inr (.inr (some (30, 0, 0)))), some (.inr (.inr (some (7, 0, 0)))), some (.inr (.inr (some (8, 0, 0)))), some (.inl (i + 4))], [], M2) _)
        exact ih (i + 4) M2 (by omega) (by omega) (by rw [show 30 * (i + 4) = 30 * i + 120 by omega]; exact hW)
      refine seg_ok 6 (⟨by omega, ?_⟩ : (0 ≤ i ∧ i < X.1) ∧ EvI X E_L_law (if (andI (X.2 i) 31) = 0 then 156 else if (andI (X.2 i) 31) = 1 then 199 else if (andI (X.2 i) 31) = 2 then 212 else if (andI (X.2 i) 31) = 3 then 255 else if (andI (X.2 i) 31) = 4 then 278 else if (andI (X.2 i) 31) = 5 then 301 else if (andI (X.2 i) 31) = 6 then 344 else if (andI (X.2 i) 31) = 7 then 367 else if (andI (X.2 i) 31) = 8 then 390 else if (andI (X.2 i) 31) = 9 then 413 else if (andI (X.2 i) 31) = 10 then 436 else if (andI (X.2 i) 31) = 11 then 459 else if (andI (X.2 i) 31) = 12 then 482 else if (andI (X.2 i) 31) = 13 then 495 else if (andI (X.2 i) 31) = 14 then 508 else if (andI (X.2 i) 31) = 15 then 531 else if (andI (X.2 i) 31) = 16 then 544 else if (andI (X.2 i) 31) = 17 then 557 else if (andI (X.2 i) 31) = 18 then 580 else if (andI (X.2 i) 31) = 19 then 613 else if (andI (X.2 i) 31) = 20 then 636 else if (andI (X.2 i) 31) = 21 then 669 else if (andI (X.2 i) 31) = 22 then 702 else if (andI (X.2 i) 31) = 23 then 735 else if (andI (X.2 i) 31) = 24 then 758 else if (andI (X.2 i) 31) = 25 then 781 else if (andI (X.2 i) 31) = 26 then 804 else 817, [some (.inr (.inr (some (30, 0, 0)))), some (.inr (.inr (some (7, 0, 0)))), some (.inr (.inr (some (8, 0, 0)))), some (.inl i)], [], M) _)
      refine ev_if (fun _ => lw_c0 h hm hi4 hX2 J) (fun _ => ?_)
      refine ev_if (fun _ => lw_c1 h hm hi4 hX2 J) (fun _ => ?_)
      refine ev_if (fun _ => lw_c2 h hm hi4 hX2 J) (fun _ => ?_)
      refine ev_if (fun _ => lw_c3 h hm hi4 hX2 J) (fun _ => ?_)
      refine ev_if (fun _ => lw_c4 h hm hi4 hX2 J) (fun _ => ?_)
      refine ev_if (fun _ => lw_c5 h hm hi4 hX2 J) (fun _ => ?_)
      refine ev_if (fun _ => lw_c6 h hm hi4 hX2 J) (fun _ => ?_)
      refine ev_if (fun _ => lw_c7 h hm hi4 hX2 J) (fun _ => ?_)
      refine ev_if (fun _ => lw_c8 h hm hi4 hX2 J) (fun _ => ?_)
      refine ev_if (fun _ => lw_c9 h hm hi4 hX2 J) (fun _ => ?_)
      refine ev_if (fun _ => lw_c10 h hm hi4 hX2 J) (fun _ => ?_)
      refine ev_if (fun _ => lw_c11 h hm hi4 hX2 J) (fun _ => ?_)
      refine ev_if (fun _ => lw_c12 h hm hi4 hX2 J) (fun _ => ?_)
      refine ev_if (fun _ => lw_c13 h hm hi4 hX2 J) (fun _ => ?_)
      refine ev_if (fun _ => lw_c14 h hm hi4 hX2 J) (fun _ => ?_)
      refine ev_if (fun _ => lw_c15 h hm hi4 hX2 J) (fun _ => ?_)
      refine ev_if (fun _ => lw_c16 h hm hi4 hX2 J) (fun _ => ?_)
      refine ev_if (fun _ => lw_c17 h hm hi4 hX2 J) (fun _ => ?_)
      refine ev_if (fun _ => lw_c18 h hm hi4 hX2 J) (fun _ => ?_)
      refine ev_if (fun _ => lw_c19 h hm hi4 hX2 J) (fun _ => ?_)
      refine ev_if (fun _ => lw_c20 h hm hi4 hX2 J) (fun _ => ?_)
      refine ev_if (fun _ => lw_c21 h hm hi4 hX2 J) (fun _ => ?_)
      refine ev_if (fun _ => lw_c22 h hm hi4 hX2 J) (fun _ => ?_)
      refine ev_if (fun _ => lw_c23 h hm hi4 hX2 J) (fun _ => ?_)
      refine ev_if (fun _ => lw_c24 h hm hi4 hX2 J) (fun _ => ?_)
      refine ev_if (fun _ => lw_c25 h hm hi4 hX2 J) (fun _ => ?_)
      refine ev_if (fun _ => lw_c26 h hm hi4 hX2 J) (fun _ => ?_)
      exact J M (Wld_up h (by omega) hm)
end
