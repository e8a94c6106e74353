/-! 37: programs: tokens, both sides -/
section
variable {X : XI}
theorem kd_0 {c : Int} (h : ¬ (97 ≤ c ∧ c ≤ 122)) (k : ¬ (48 ≤ c ∧ c ≤ 57)) : kd c = 0 := by
  unfold kd
  rw [cif_f h, cif_f k]
theorem d_kindOf {M : NM} {c : Int} : HT X z_X4_kindOf [.inl c] M (fun rr MM => rr = some (.inl (kd c)) ∧ MM = M) := by
  refine ht_of (e := E_X4_kindOf) rfl (?_ : EvI X E_X4_kindOf (0, [some (.inl c)], [], M) _)
  refine seg_ok 3 (?_ : EvI X E_X4_kindOf (if c < 97 then 14 else 6, [some (.inl c)], [], M) _)
  refine ev_if (fun h3 => ?_) (fun h3 => ?_)
  · refine seg_ok 3 (?_ : EvI X E_X4_kindOf (if c < 48 then 30 else 20, [some (.inl c)], [], M) _)
    refine ev_if (fun h17 => ?_) (fun h17 => ?_)
    · refine seg_ok 1 (?_ : EvI X E_X4_kindOf (31, [some (.inl c)], [.inl 0], M) _)
      refine ev_rt (r := some (.inl 0)) rfl (?_)
      exact ⟨rint (kd_0 (by omega) (by omega)).symm, rfl⟩
    · refine seg_ok 3 (?_ : EvI X E_X4_kindOf (if 57 < c then 30 else 26, [some (.inl c)], [], M) _)
      refine ev_if (fun h23 => ?_) (fun h23 => ?_)
      · refine seg_ok 1 (?_ : EvI X E_X4_kindOf (31, [some (.inl c)], [.inl 0], M) _)
        refine ev_rt (r := some (.inl 0)) rfl (?_)
        exact ⟨rint (kd_0 (by omega) (by omega)).symm, rfl⟩
      · refine seg_ok 2 (?_ : EvI X E_X4_kindOf (31, [some (.inl c)], [.inl 2], M) _)
        refine ev_rt (r := some (.inl 2)) rfl (?_)
        exact ⟨rint (kd_2.mpr (by omega)).symm, rfl⟩
  · refine seg_ok 3 (?_ : EvI X E_X4_kindOf (if 122 < c then 14 else 12, [some (.inl c)], [], M) _)
    refine ev_if (fun h9 => ?_) (fun h9 => ?_)
    · refine seg_ok 3 (?_ : EvI X E_X4_kindOf (if c < 48 then 30 else 20, [some (.inl c)], [], M) _)
      refine ev_if (fun h17 => ?_) (fun h17 => ?_)
      · refine seg_ok 1 (?_ : EvI X E_X4_kindOf (31, [some (.inl c)], [.inl 0], M) _)
        refine ev_rt (r := some (.inl 0)) rfl (?_)
        exact ⟨rint (kd_0 (by omega) (by omega)).symm, rfl⟩
      · refine seg_ok 3 (?_ : EvI X E_X4_kindOf (if 57 < c then 30 else 26, [some (.inl c)], [], M) _)
        refine ev_if (fun h23 => ?_) (fun h23 => ?_)
        · refine seg_ok 1 (?_ : EvI X E_X4_kindOf (31, [some (.inl c)], [.inl 0], M) _)
          refine ev_rt (r := some (.inl 0)) rfl (?_)
          exact ⟨rint (kd_0 (by omega) (by omega)).symm, rfl⟩
        · refine seg_ok 2 (?_ : EvI X E_X4_kindOf (31, [some (.inl c)], [.inl 2], M) _)
          refine ev_rt (r := some (.inl 2)) rfl (?_)
          exact ⟨rint (kd_2.mpr (by omega)).symm, rfl⟩
    · refine seg_ok 1 (?_ : EvI X E_X4_kindOf (13, [some (.inl c)], [.inl 1], M) _)
      refine ev_rt (r := some (.inl 1)) rfl (?_)
      exact ⟨rint (kd_1.mpr (by omega)).symm, rfl⟩
set_option maxRecDepth 2670 in
theorem d_readToken {M : NM} {T : Int → Int} {L : Int} (hL : M 4 0 0 2 = L) (hL2 : 0 ≤ L ∧ L ≤ 120) (hT : ∀ k, 0 ≤ k → k < L → M 15 0 0 k = T k) (hp : 0 ≤ M 4 0 0 4 ∧ M 4 0 0 4 ≤ L) : HT X z_X4_readToken [.inr (.inr (some (4, 0, 0)))] M (fun rr MM => rr = none ∧ MM 4 0 0 3 = sk T L (M 4 0 0 4) ∧ MM 4 0 0 4 = tkE T L (sk T L (M 4 0 0 4)) ∧ (∀ K, K ≠ 4 → MM K = M K) ∧ ∀ s, s ≠ 3 → s ≠ 4 → MM 4 0 0 s = M 4 0 0 s) := by
  refine ht_of (e := E_X4_readToken) rfl (?_ : EvI X E_X4_readToken (0, [some (.inr (.inr (some (4, 0, 0)))), none], [], M) _)
  refine seg_ok 4 (?_ : EvI X E_X4_readToken (8, [some (.inr (.inr (some (4, 0, 0)))), none], [], (wri M 4 0 0 3 (M 4 0 0 4))) _)
  have L8 : ∀ (m8 : Nat) (M1 : NM) (q : Int), L - q < (m8 : Int) → (0 ≤ q) → (q ≤ L) → (M1 4 0 0 3 = q) → (∀ K, K ≠ 4 → M1 K = M K) → (∀ s, s ≠ 3 → s ≠ 4 → M1 4 0 0 s = M 4 0 0 s) → (sk T L (M 4 0 0 4) = sk T L q) → EvI X E_X4_readToken (8, [some (.inr (.inr (some (4, 0, 0)))), none], [], M1) (fun rr MM => rr = none ∧ MM 4 0 0 3 = sk T L (M 4 0 0 4) ∧ MM 4 0 0 4 = tkE T L (sk T L (M 4 0 0 4)) ∧ (∀ K, K ≠ 4 → MM K = M K) ∧ ∀ s, s ≠ 3 → s ≠ 4 → MM 4 0 0 s = M 4 0 0 s) := by
    intro m8
    induction m8 with
    | zero => intro  M1 q hm8 q1 q2 q3 q4 q5 q6; exact absurd hm8 (by omega)
    | succ m8 ih8 =>
      intro  M1 q hm8 q1 q2 q3 q4 q5 q6
      have eL : M1 4 0 0 2 = L := (q5 2 (by decide) (by decide)).trans hL
      have e15 : ∀ k, 0 ≤ k → k < L → M1 15 0 0 k = T k := fun k a b => by rw [q4 15 (by decide)]; exact hT k a b
      refine seg_ok 5 (?_ : EvI X E_X4_readToken (if (M1 4 0 0 3) < (M1 4 0 0 2) then 19 else 46, [some (.inr (.inr (some (4, 0, 0)))), none], [], M1) _)
      refine ev_if (fun h16 => ?_) (fun h16 => ?_)
      · refine seg_ok 7 (⟨by omega, ?_⟩ : ((0 : Int) ≤ (M1 4 0 0 3) ∧ (M1 4 0 0 3) < 120) ∧ EvI X E_X4_readToken (if (M1 15 0 0 (M1 4 0 0 3)) = 32 then 33 else 46, [some (.inr (.inr (some (4, 0, 0)))), none], [], M1) _)
        refine ev_if (fun h30 => ?_) (fun h30 => ?_)
        · refine seg_ok 7 (⟨by omega, ?_⟩ : ((-2147483648 : Int) ≤ ((M1 4 0 0 3) + 1) ∧ ((M1 4 0 0 3) + 1) < 2147483648) ∧ EvI X E_X4_readToken (8, [some (.inr (.inr (some (4, 0, 0)))), none], [], (wri M1 4 0 0 3 ((M1 4 0 0 3) + 1))) _)
          refine ih8 (wri M1 4 0 0 3 ((M1 4 0 0 3) + 1)) (q + 1) (by omega) (by omega) (by omega) (wri_eq.trans (by rw [q3])) (fun K h => (wri_K h).trans (q4 K h)) (fun s a b => (wri_nes a).trans (q5 s a b)) (q6.trans (sk_t (by omega) (by rw [← e15 q q1 (by omega), ← q3]; exact h30)))
        · have e4 : sk T L (M 4 0 0 4) = q := q6.trans (sk_f (fun z => h30 (by rw [q3, e15 q q1 z.1]; exact z.2)))
          refine seg_ok 6 (?_ : EvI X E_X4_readToken (58, [some (.inr (.inr (some (4, 0, 0)))), none], [.inl ((wri M1 4 0 0 4 (M1 4 0 0 3)) 4 0 0 3)], (wri M1 4 0 0 4 (M1 4 0 0 3))) _)
          rw [show ((wri M1 4 0 0 4 (M1 4 0 0 3)) 4 0 0 3) = (M1 4 0 0 3) from wri_nes (by decide)]
          refine seg_ok 2 (?_ : EvI X E_X4_readToken (62, [some (.inr (.inr (some (4, 0, 0)))), none], [.inl ((wri M1 4 0 0 4 (M1 4 0 0 3)) 4 0 0 2), .inl (M1 4 0 0 3)], (wri M1 4 0 0 4 (M1 4 0 0 3))) _)
          rw [show ((wri M1 4 0 0 4 (M1 4 0 0 3)) 4 0 0 2) = (M1 4 0 0 2) from wri_nes (by decide)]
          refine seg_ok 1 (?_ : EvI X E_X4_readToken (if (M1 4 0 0 3) < (M1 4 0 0 2) then 66 else 65, [some (.inr (.inr (some (4, 0, 0)))), none], [], (wri M1 4 0 0 4 (M1 4 0 0 3))) _)
          refine ev_if (fun h62 => ?_) (fun h62 => ?_)
          · have hs : q < L := by omega
            refine seg_ok 4 (?_ : EvI X E_X4_readToken (74, [some (.inr (.inr (some (4, 0, 0)))), none], [.inl ((wri M1 4 0 0 4 (M1 4 0 0 3)) 4 0 0 3), .inr (.inr (some (15, 0, 0)))], (wri M1 4 0 0 4 (M1 4 0 0 3))) _)
            rw [show ((wri M1 4 0 0 4 (M1 4 0 0 3)) 4 0 0 3) = (M1 4 0 0 3) from wri_nes (by decide)]
            refine seg_ok 1 (⟨by omega, ?_⟩ : ((0 : Int) ≤ (M1 4 0 0 3) ∧ (M1 4 0 0 3) < 120) ∧ EvI X E_X4_readToken (75, [some (.inr (.inr (some (4, 0, 0)))), none], [.inl (M1 15 0 0 (M1 4 0 0 3))], (wri M1 4 0 0 4 (M1 4 0 0 3))) _)
            refine ev_clp (v := .inl (kd (M1 15 0 0 (M1 4 0 0 3)))) (z := z_X4_kindOf) (as := [.inl (M1 15 0 0 (M1 4 0 0 3))]) (rest := []) rfl d_kindOf (?_ : EvI X E_X4_readToken (78, [some (.inr (.inr (some (4, 0, 0)))), none], [.inl (kd (M1 15 0 0 (M1 4 0 0 3)))], (wri M1 4 0 0 4 (M1 4 0 0 3))) _)
            refine seg_ok 4 (?_ : EvI X E_X4_readToken (84, [some (.inr (.inr (some (4, 0, 0)))), some (.inl (kd (M1 15 0 0 (M1 4 0 0 3))))], [.inl ((wri M1 4 0 0 4 (M1 4 0 0 3)) 4 0 0 4), .inr (.inr (some (4, 0, 0)))], (wri M1 4 0 0 4 (M1 4 0 0 3))) _)
            rw [show ((wri M1 4 0 0 4 (M1 4 0 0 3)) 4 0 0 4) = (M1 4 0 0 3) from wri_eq]
            refine seg_ok 3 (⟨by omega, ?_⟩ : ((-2147483648 : Int) ≤ ((M1 4 0 0 3) + 1) ∧ ((M1 4 0 0 3) + 1) < 2147483648) ∧ EvI X E_X4_readToken (89, [some (.inr (.inr (some (4, 0, 0)))), some (.inl (kd (M1 15 0 0 (M1 4 0 0 3))))], [], (wri (wri M1 4 0 0 4 (M1 4 0 0 3)) 4 0 0 4 ((M1 4 0 0 3) + 1))) _)
            have L89 : ∀ (m89 : Nat) (M2 : NM) (u : Int), L - u < (m89 : Int) → (q + 1 ≤ u) → (u ≤ L) → (M2 4 0 0 3 = q) → (M2 4 0 0 4 = u) → (∀ K, K ≠ 4 → M2 K = M K) → (∀ s, s ≠ 3 → s ≠ 4 → M2 4 0 0 s = M 4 0 0 s) → (kd (M1 15 0 0 (M1 4 0 0 3)) ≠ 0 → rn T L (kd (T q)) (q + 1) = rn T L (kd (T q)) u) → (kd (M1 15 0 0 (M1 4 0 0 3)) = 0 → u = q + 1) → EvI X E_X4_readToken (89, [some (.inr (.inr (some (4, 0, 0)))), some (.inl (kd (M1 15 0 0 (M1 4 0 0 3))))], [], M2) (fun rr MM => rr = none ∧ MM 4 0 0 3 = sk T L (M 4 0 0 4) ∧ MM 4 0 0 4 = tkE T L (sk T L (M 4 0 0 4)) ∧ (∀ K, K ≠ 4 → MM K = M K) ∧ ∀ s, s ≠ 3 → s ≠ 4 → MM 4 0 0 s = M 4 0 0 s) := by
              intro m89
              induction m89 with
              | zero => intro  M2 u hm89 p1 p2 p3 p5 p6 p7 p8 p9; exact absurd hm89 (by omega)
              | succ m89 ih89 =>
                intro  M2 u hm89 p1 p2 p3 p5 p6 p7 p8 p9
                have eL2 : M2 4 0 0 2 = L := (p7 2 (by decide) (by decide)).trans hL
                have hq5 : u < L → M2 15 0 0 (M2 4 0 0 4) = T u := fun z => by rw [p5, p6 15 (by decide)]; exact hT u (by omega) z
                have hkq : kd (M1 15 0 0 (M1 4 0 0 3)) = kd (T q) := congrArg kd (by rw [q3]; exact e15 q q1 hs)
                refine seg_ok 2 (?_ : EvI X E_X4_readToken (if (kd (M1 15 0 0 (M1 4 0 0 3))) = 0 then 133 else 93, [some (.inr (.inr (some (4, 0, 0)))), some (.inl (kd (M1 15 0 0 (M1 4 0 0 3))))], [], M2) _)
                refine ev_if (fun h90 => ?_) (fun h90 => ?_)
                · refine ev_rt (r := none) rfl (?_)
                  exact ⟨rfl, p3.trans e4.symm, p5.trans (by rw [e4, tkE, cif_t hs, cif_t (show kd (T q) = 0 by rw [← hkq]; exact h90)]; exact p9 h90), p6, p7⟩
                · refine seg_ok 5 (?_ : EvI X E_X4_readToken (if (M2 4 0 0 4) < (M2 4 0 0 2) then 104 else 133, [some (.inr (.inr (some (4, 0, 0)))), some (.inl (kd (M1 15 0 0 (M1 4 0 0 3))))], [], M2) _)
                  refine ev_if (fun h101 => ?_) (fun h101 => ?_)
                  · refine seg_ok 5 (⟨by omega, ?_⟩ : ((0 : Int) ≤ (M2 4 0 0 4) ∧ (M2 4 0 0 4) < 120) ∧ EvI X E_X4_readToken (113, [some (.inr (.inr (some (4, 0, 0)))), some (.inl (kd (M1 15 0 0 (M1 4 0 0 3))))], [.inl (M2 15 0 0 (M2 4 0 0 4))], M2) _)
                    refine ev_clp (v := .inl (kd (M2 15 0 0 (M2 4 0 0 4)))) (z := z_X4_kindOf) (as := [.inl (M2 15 0 0 (M2 4 0 0 4))]) (rest := []) rfl d_kindOf (?_ : EvI X E_X4_readToken (116, [some (.inr (.inr (some (4, 0, 0)))), some (.inl (kd (M1 15 0 0 (M1 4 0 0 3))))], [.inl (kd (M2 15 0 0 (M2 4 0 0 4)))], M2) _)
                    refine seg_ok 2 (?_ : EvI X E_X4_readToken (if (kd (M2 15 0 0 (M2 4 0 0 4))) = (kd (M1 15 0 0 (M1 4 0 0 3))) then 120 else 133, [some (.inr (.inr (some (4, 0, 0)))), some (.inl (kd (M1 15 0 0 (M1 4 0 0 3))))], [], M2) _)
                    refine ev_if (fun h117 => ?_) (fun h117 => ?_)
                    · refine seg_ok 7 (⟨by omega, ?_⟩ : ((-2147483648 : Int) ≤ ((M2 4 0 0 4) + 1) ∧ ((M2 4 0 0 4) + 1) < 2147483648) ∧ EvI X E_X4_readToken (89, [some (.inr (.inr (some (4, 0, 0)))), some (.inl (kd (M1 15 0 0 (M1 4 0 0 3))))], [], (wri M2 4 0 0 4 ((M2 4 0 0 4) + 1))) _)
                      refine ih89 (wri M2 4 0 0 4 ((M2 4 0 0 4) + 1)) (u + 1) (by omega) (by omega) (by omega) ((wri_nes (by decide)).trans p3) (wri_eq.trans (by rw [p5])) (fun K h => (wri_K h).trans (p6 K h)) (fun s a b => (wri_nes b).trans (p7 s a b)) (fun z => (p8 z).trans (rn_t (by omega) (by rw [← hq5 (by omega), ← hkq]; exact h117))) (fun z => absurd z h90)
                    · refine ev_rt (r := none) rfl (?_)
                      exact ⟨rfl, p3.trans e4.symm, p5.trans (by rw [e4, tkE, cif_t hs, cif_f (show ¬ kd (T q) = 0 by rw [← hkq]; exact h90), p8 h90]; exact (rn_f (by intro z; exact h117 ((congrArg kd (hq5 (by omega))).trans (z.2.trans hkq.symm)))).symm), p6, p7⟩
                  · refine ev_rt (r := none) rfl (?_)
                    exact ⟨rfl, p3.trans e4.symm, p5.trans (by rw [e4, tkE, cif_t hs, cif_f (show ¬ kd (T q) = 0 by rw [← hkq]; exact h90), p8 h90]; exact (rn_f (by omega)).symm), p6, p7⟩
            refine L89 ((L - (q + 1)) + 1 : Int).toNat (wri (wri M1 4 0 0 4 (M1 4 0 0 3)) 4 0 0 4 ((M1 4 0 0 3) + 1)) (q + 1) (by omega) (by omega) (by omega) ((wri_nes (by decide)).trans ((wri_nes (by decide)).trans q3)) (wri_eq.trans (by rw [q3])) (fun K h => (wri_K h).trans ((wri_K h).trans (q4 K h))) (fun s a b => (wri_nes b).trans ((wri_nes b).trans (q5 s a b))) (fun _ => rfl) (fun _ => rfl)
          · exact absurd h62 (by omega)
      · have e4 : sk T L (M 4 0 0 4) = q := q6.trans (sk_f (by omega))
        refine seg_ok 6 (?_ : EvI X E_X4_readToken (58, [some (.inr (.inr (some (4, 0, 0)))), none], [.inl ((wri M1 4 0 0 4 (M1 4 0 0 3)) 4 0 0 3)], (wri M1 4 0 0 4 (M1 4 0 0 3))) _)
        rw [show ((wri M1 4 0 0 4 (M1 4 0 0 3)) 4 0 0 3) = (M1 4 0 0 3) from wri_nes (by decide)]
        refine seg_ok 2 (?_ : EvI X E_X4_readToken (62, [some (.inr (.inr (some (4, 0, 0)))), none], [.inl ((wri M1 4 0 0 4 (M1 4 0 0 3)) 4 0 0 2), .inl (M1 4 0 0 3)], (wri M1 4 0 0 4 (M1 4 0 0 3))) _)
        rw [show ((wri M1 4 0 0 4 (M1 4 0 0 3)) 4 0 0 2) = (M1 4 0 0 2) from wri_nes (by decide)]
        refine seg_ok 1 (?_ : EvI X E_X4_readToken (if (M1 4 0 0 3) < (M1 4 0 0 2) then 66 else 65, [some (.inr (.inr (some (4, 0, 0)))), none], [], (wri M1 4 0 0 4 (M1 4 0 0 3))) _)
        refine ev_if (fun h62 => ?_) (fun h62 => ?_)
        · exact absurd h62 (by omega)
        · refine ev_rt (r := none) rfl (?_)
          show _ ∧ (wri M1 4 0 0 4 (M1 4 0 0 3)) 4 0 0 3 = _ ∧ (wri M1 4 0 0 4 (M1 4 0 0 3)) 4 0 0 4 = _ ∧ _
          exact ⟨rfl, (wri_nes (by decide)).trans (q3.trans e4.symm), wri_eq.trans (by rw [e4, tkE, cif_f (by omega)]; exact q3), fun K h => (wri_K h).trans (q4 K h), fun s a b => (wri_nes b).trans (q5 s a b)⟩
  refine L8 ((L - M 4 0 0 4) + 1 : Int).toNat (wri M 4 0 0 3 (M 4 0 0 4)) (M 4 0 0 4) (by omega) (by omega) (by omega) wri_eq (fun K h => wri_K h) (fun s a _ => wri_nes a) rfl
noncomputable def valN (T : Int → Int) (s : Int) : Nat → Int
  | 0 => 0
  | n + 1 => valN T s n * 10 + T (s + (n : Int)) - 48
noncomputable def val (T : Int → Int) (s e : Int) : Int := valN T s (e - s).toNat
theorem val_0 {T : Int → Int} {s : Int} : val T s s = 0 := by
  unfold val
  rw [show (s - s).toNat = 0 by omega]; rfl
theorem val_s {T : Int → Int} {s i : Int} (h : s ≤ i) : val T s (i + 1) = 10 * val T s i + T i - 48 := by
  unfold val
  rw [show (i + 1 - s).toNat = (i - s).toNat + 1 by omega, valN, show s + ((i - s).toNat : Int) = i by omega]
  omega
/-- the number of a token -/
noncomputable def numC (T : Int → Int) (L s : Int) : Int := cif (s < L ∧ kd (T s) = 2 ∧ tkE T L s - s < 5 ∧ (tkE T L s - s = 1 ∨ T s ≠ 48)) (val T s (tkE T L s)) (-1)
/-- is a token this word? -/
def isW (T : Int → Int) (s e : Int) (W : List Nat) : Prop := e - s = (W.length : Int) ∧ ∀ k, 0 ≤ k → k < (W.length : Int) → T (s + k) = Int.ofNat (W.getD k.toNat 0)
set_option maxRecDepth 2310 in
theorem d_numberOfToken {M : NM} {T : Int → Int} {L : Int} {s : Int} (hL : M 4 0 0 2 = L) (hL2 : 0 ≤ L ∧ L ≤ 120) (hT : ∀ k, 0 ≤ k → k < L → M 15 0 0 k = T k) (hs : 0 ≤ s ∧ s ≤ L) (h3 : M 4 0 0 3 = s) (h4 : M 4 0 0 4 = tkE T L s) : HT X z_X4_numberOfToken [.inr (.inr (some (4, 0, 0)))] M (fun rr MM => rr = some (.inl (numC T L s)) ∧ MM = M) := by
  refine ht_of (e := E_X4_numberOfToken) rfl (?_ : EvI X E_X4_numberOfToken (0, [some (.inr (.inr (some (4, 0, 0)))), none, none, none], [], M) _)
  obtain ⟨t1, t2, t3, t4, t5⟩ := tk_r (T := T) hs.2
  refine seg_ok 9 (⟨by omega, ?_⟩ : ((-2147483648 : Int) ≤ ((M 4 0 0 4) - (M 4 0 0 3)) ∧ ((M 4 0 0 4) - (M 4 0 0 3)) < 2147483648) ∧ EvI X E_X4_numberOfToken (if ((M 4 0 0 4) - (M 4 0 0 3)) < 1 then 39 else 15, [some (.inr (.inr (some (4, 0, 0)))), some (.inl ((M 4 0 0 4) - (M 4 0 0 3))), none, none], [], M) _)
  refine ev_if (fun h12 => ?_) (fun h12 => ?_)
  · refine seg_ok 1 (?_ : EvI X E_X4_numberOfToken (40, [some (.inr (.inr (some (4, 0, 0)))), some (.inl ((M 4 0 0 4) - (M 4 0 0 3))), none, none], [.inl (-1)], M) _)
    refine ev_rt (r := some (.inl (-1))) rfl (?_)
    exact ⟨rint (cif_f (by omega)).symm, rfl⟩
  · refine seg_ok 3 (?_ : EvI X E_X4_numberOfToken (if 4 < ((M 4 0 0 4) - (M 4 0 0 3)) then 39 else 20, [some (.inr (.inr (some (4, 0, 0)))), some (.inl ((M 4 0 0 4) - (M 4 0 0 3))), none, none], [], M) _)
    refine ev_if (fun h17 => ?_) (fun h17 => ?_)
    · refine seg_ok 1 (?_ : EvI X E_X4_numberOfToken (40, [some (.inr (.inr (some (4, 0, 0)))), some (.inl ((M 4 0 0 4) - (M 4 0 0 3))), none, none], [.inl (-1)], M) _)
      refine ev_rt (r := some (.inl (-1))) rfl (?_)
      exact ⟨rint (cif_f (by omega)).symm, rfl⟩
    · refine seg_ok 3 (?_ : EvI X E_X4_numberOfToken (if 1 < ((M 4 0 0 4) - (M 4 0 0 3)) then 25 else 41, [some (.inr (.inr (some (4, 0, 0)))), some (.inl ((M 4 0 0 4) - (M 4 0 0 3))), none, none], [], M) _)
      refine ev_if (fun h22 => ?_) (fun h22 => ?_)
      · refine seg_ok 7 (⟨by omega, ?_⟩ : ((0 : Int) ≤ (M 4 0 0 3) ∧ (M 4 0 0 3) < 120) ∧ EvI X E_X4_numberOfToken (if (M 15 0 0 (M 4 0 0 3)) = 48 then 39 else 41, [some (.inr (.inr (some (4, 0, 0)))), some (.inl ((M 4 0 0 4) - (M 4 0 0 3))), none, none], [], M) _)
        refine ev_if (fun h36 => ?_) (fun h36 => ?_)
        · rw [show M 15 0 0 (M 4 0 0 3) = T s by rw [h3]; exact hT s hs.1 (by omega)] at h36
          refine seg_ok 1 (?_ : EvI X E_X4_numberOfToken (40, [some (.inr (.inr (some (4, 0, 0)))), some (.inl ((M 4 0 0 4) - (M 4 0 0 3))), none, none], [.inl (-1)], M) _)
          refine ev_rt (r := some (.inl (-1))) rfl (?_)
          exact ⟨rint (cif_f (by omega)).symm, rfl⟩
        · rw [show M 15 0 0 (M 4 0 0 3) = T s by rw [h3]; exact hT s hs.1 (by omega)] at h36
          refine seg_ok 5 (?_ : EvI X E_X4_numberOfToken (48, [some (.inr (.inr (some (4, 0, 0)))), some (.inl ((M 4 0 0 4) - (M 4 0 0 3))), some (.inl 0), some (.inl (M 4 0 0 3))], [], M) _)
          have L48 : ∀ (m48 : Nat) (v i : Int), tkE T L s - i < (m48 : Int) → (s ≤ i) → (i ≤ tkE T L s) → (v = val T s i) → (s < i → kd (T s) = 2) → ((i = s ∧ v = 0) ∨ 0 ≤ v ∧ ((i = s + 1 ∧ v ≤ 9) ∨ (i = s + 2 ∧ v ≤ 99) ∨ (i = s + 3 ∧ v ≤ 999) ∨ (i = s + 4 ∧ v ≤ 9999))) → EvI X E_X4_numberOfToken (48, [some (.inr (.inr (some (4, 0, 0)))), some (.inl ((M 4 0 0 4) - (M 4 0 0 3))), some (.inl v), some (.inl i)], [], M) (fun rr MM => rr = some (.inl (numC T L s)) ∧ MM = M) := by
            intro m48
            induction m48 with
            | zero => intro v i hm48 a1 a2 a3 a4 a5; exact absurd hm48 (by omega)
            | succ m48 ih48 =>
              intro v i hm48 a1 a2 a3 a4 a5
              refine seg_ok 4 (?_ : EvI X E_X4_numberOfToken (if i < (M 4 0 0 4) then 56 else 92, [some (.inr (.inr (some (4, 0, 0)))), some (.inl ((M 4 0 0 4) - (M 4 0 0 3))), some (.inl v), some (.inl i)], [], M) _)
              refine ev_if (fun h53 => ?_) (fun h53 => ?_)
              · refine seg_ok 4 (⟨by omega, ?_⟩ : ((0 : Int) ≤ i ∧ i < 120) ∧ EvI X E_X4_numberOfToken (62, [some (.inr (.inr (some (4, 0, 0)))), some (.inl ((M 4 0 0 4) - (M 4 0 0 3))), some (.inl v), some (.inl i)], [.inl (M 15 0 0 i)], M) _)
                refine ev_clp (v := .inl (kd (M 15 0 0 i))) (z := z_X4_kindOf) (as := [.inl (M 15 0 0 i)]) (rest := []) rfl d_kindOf (?_ : EvI X E_X4_numberOfToken (65, [some (.inr (.inr (some (4, 0, 0)))), some (.inl ((M 4 0 0 4) - (M 4 0 0 3))), some (.inl v), some (.inl i)], [.inl (kd (M 15 0 0 i))], M) _)
                refine seg_ok 2 (?_ : EvI X E_X4_numberOfToken (if (kd (M 15 0 0 i)) = 2 then 71 else 69, [some (.inr (.inr (some (4, 0, 0)))), some (.inl ((M 4 0 0 4) - (M 4 0 0 3))), some (.inl v), some (.inl i)], [], M) _)
                refine ev_if (fun h66 => ?_) (fun h66 => ?_)
                · have hk := kd_2.mp h66
                  refine seg_ok 13 (⟨by omega, by omega, by omega, by omega, by omega, ?_⟩ : ((-2147483648 : Int) ≤ (v * 10) ∧ (v * 10) < 2147483648) ∧ ((0 : Int) ≤ i ∧ i < 120) ∧ ((-2147483648 : Int) ≤ ((v * 10) + (M 15 0 0 i)) ∧ ((v * 10) + (M 15 0 0 i)) < 2147483648) ∧ ((-2147483648 : Int) ≤ (((v * 10) + (M 15 0 0 i)) - 48) ∧ (((v * 10) + (M 15 0 0 i)) - 48) < 2147483648) ∧ ((-2147483648 : Int) ≤ (i + 1) ∧ (i + 1) < 2147483648) ∧ EvI X E_X4_numberOfToken (48, [some (.inr (.inr (some (4, 0, 0)))), some (.inl ((M 4 0 0 4) - (M 4 0 0 3))), some (.inl (((v * 10) + (M 15 0 0 i)) - 48)), some (.inl (i + 1))], [], M) _)
                  refine ih48 (((v * 10) + (M 15 0 0 i)) - 48) (i + 1) (by omega) (by omega) (by omega) (by rw [val_s a1, ← a3, hT i (by omega) (by omega)]; omega) (fun _ => by rw [← t4 i a1 (by omega), ← hT i (by omega) (by omega)]; exact h66) (by omega)
                · refine seg_ok 1 (?_ : EvI X E_X4_numberOfToken (70, [some (.inr (.inr (some (4, 0, 0)))), some (.inl ((M 4 0 0 4) - (M 4 0 0 3))), some (.inl v), some (.inl i)], [.inl (-1)], M) _)
                  refine ev_rt (r := some (.inl (-1))) rfl (?_)
                  exact ⟨rint (cif_f (fun z => h66 (by rw [hT i (by omega) (by omega), t4 i a1 (by omega)]; exact z.2.1))).symm, rfl⟩
              · refine seg_ok 1 (?_ : EvI X E_X4_numberOfToken (93, [some (.inr (.inr (some (4, 0, 0)))), some (.inl ((M 4 0 0 4) - (M 4 0 0 3))), some (.inl v), some (.inl i)], [.inl v], M) _)
                refine ev_rt (r := some (.inl v)) rfl (?_)
                exact ⟨rint (a3.trans (by rw [numC, cif_t ⟨by omega, a4 (by omega), by omega, by omega⟩, show i = tkE T L s by omega])), rfl⟩
          refine L48 ((tkE T L s - (M 4 0 0 3)) + 1 : Int).toNat 0 (M 4 0 0 3) (by omega) (by omega) (by omega) (h3 ▸ val_0.symm) (by omega) (by omega)
      · refine seg_ok 5 (?_ : EvI X E_X4_numberOfToken (48, [some (.inr (.inr (some (4, 0, 0)))), some (.inl ((M 4 0 0 4) - (M 4 0 0 3))), some (.inl 0), some (.inl (M 4 0 0 3))], [], M) _)
        have L48 : ∀ (m48 : Nat) (v i : Int), tkE T L s - i < (m48 : Int) → (s ≤ i) → (i ≤ tkE T L s) → (v = val T s i) → (s < i → kd (T s) = 2) → ((i = s ∧ v = 0) ∨ 0 ≤ v ∧ ((i = s + 1 ∧ v ≤ 9) ∨ (i = s + 2 ∧ v ≤ 99) ∨ (i = s + 3 ∧ v ≤ 999) ∨ (i = s + 4 ∧ v ≤ 9999))) → EvI X E_X4_numberOfToken (48, [some (.inr (.inr (some (4, 0, 0)))), some (.inl ((M 4 0 0 4) - (M 4 0 0 3))), some (.inl v), some (.inl i)], [], M) (fun rr MM => rr = some (.inl (numC T L s)) ∧ MM = M) := by
          intro m48
          induction m48 with
          | zero => intro v i hm48 a1 a2 a3 a4 a5; exact absurd hm48 (by omega)
          | succ m48 ih48 =>
            intro v i hm48 a1 a2 a3 a4 a5
            refine seg_ok 4 (?_ : EvI X E_X4_numberOfToken (if i < (M 4 0 0 4) then 56 else 92, [some (.inr (.inr (some (4, 0, 0)))), some (.inl ((M 4 0 0 4) - (M 4 0 0 3))), some (.inl v), some (.inl i)], [], M) _)
            refine ev_if (fun h53 => ?_) (fun h53 => ?_)
            · refine seg_ok 4 (⟨by omega, ?_⟩ : ((0 : Int) ≤ i ∧ i < 120) ∧ EvI X E_X4_numberOfToken (62, [some (.inr (.inr (some (4, 0, 0)))), some (.inl ((M 4 0 0 4) - (M 4 0 0 3))), some (.inl v), some (.inl i)], [.inl (M 15 0 0 i)], M) _)
              refine ev_clp (v := .inl (kd (M 15 0 0 i))) (z := z_X4_kindOf) (as := [.inl (M 15 0 0 i)]) (rest := []) rfl d_kindOf (?_ : EvI X E_X4_numberOfToken (65, [some (.inr (.inr (some (4, 0, 0)))), some (.inl ((M 4 0 0 4) - (M 4 0 0 3))), some (.inl v), some (.inl i)], [.inl (kd (M 15 0 0 i))], M) _)
              refine seg_ok 2 (?_ : EvI X E_X4_numberOfToken (if (kd (M 15 0 0 i)) = 2 then 71 else 69, [some (.inr (.inr (some (4, 0, 0)))), some (.inl ((M 4 0 0 4) - (M 4 0 0 3))), some (.inl v), some (.inl i)], [], M) _)
              refine ev_if (fun h66 => ?_) (fun h66 => ?_)
              · have hk := kd_2.mp h66
                refine seg_ok 13 (⟨by omega, by omega, by omega, by omega, by omega, ?_⟩ : ((-2147483648 : Int) ≤ (v * 10) ∧ (v * 10) < 2147483648) ∧ ((0 : Int) ≤ i ∧ i < 120) ∧ ((-2147483648 : Int) ≤ ((v * 10) + (M 15 0 0 i)) ∧ ((v * 10) + (M 15 0 0 i)) < 2147483648) ∧ ((-2147483648 : Int) ≤ (((v * 10) + (M 15 0 0 i)) - 48) ∧ (((v * 10) + (M 15 0 0 i)) - 48) < 2147483648) ∧ ((-2147483648 : Int) ≤ (i + 1) ∧ (i + 1) < 2147483648) ∧ EvI X E_X4_numberOfToken (48, [some (.inr (.inr (some (4, 0, 0)))), some (.inl ((M 4 0 0 4) - (M 4 0 0 3))), some (.inl (((v * 10) + (M 15 0 0 i)) - 48)), some (.inl (i + 1))], [], M) _)
                refine ih48 (((v * 10) + (M 15 0 0 i)) - 48) (i + 1) (by omega) (by omega) (by omega) (by rw [val_s a1, ← a3, hT i (by omega) (by omega)]; omega) (fun _ => by rw [← t4 i a1 (by omega), ← hT i (by omega) (by omega)]; exact h66) (by omega)
              · refine seg_ok 1 (?_ : EvI X E_X4_numberOfToken (70, [some (.inr (.inr (some (4, 0, 0)))), some (.inl ((M 4 0 0 4) - (M 4 0 0 3))), some (.inl v), some (.inl i)], [.inl (-1)], M) _)
                refine ev_rt (r := some (.inl (-1))) rfl (?_)
                exact ⟨rint (cif_f (fun z => h66 (by rw [hT i (by omega) (by omega), t4 i a1 (by omega)]; exact z.2.1))).symm, rfl⟩
            · refine seg_ok 1 (?_ : EvI X E_X4_numberOfToken (93, [some (.inr (.inr (some (4, 0, 0)))), some (.inl ((M 4 0 0 4) - (M 4 0 0 3))), some (.inl v), some (.inl i)], [.inl v], M) _)
              refine ev_rt (r := some (.inl v)) rfl (?_)
              exact ⟨rint (a3.trans (by rw [numC, cif_t ⟨by omega, a4 (by omega), by omega, by omega⟩, show i = tkE T L s by omega])), rfl⟩
        refine L48 ((tkE T L s - (M 4 0 0 3)) + 1 : Int).toNat 0 (M 4 0 0 3) (by omega) (by omega) (by omega) (h3 ▸ val_0.symm) (by omega) (by omega)
theorem d_tokenIs_0 {M : NM} {T : Int → Int} {L : Int} {s : Int} (hL : M 4 0 0 2 = L) (hL2 : 0 ≤ L ∧ L ≤ 120) (hT : ∀ k, 0 ≤ k → k < L → M 15 0 0 k = T k) (hs : 0 ≤ s ∧ s ≤ L) (h3 : M 4 0 0 3 = s) (h4 : M 4 0 0 4 = tkE T L s) : HT X z_X4_tokenIs [.inr (.inr (some (4, 0, 0))), .inr (.inr (some (31, 0, 0)))] M (fun rr MM => rr = some (.inl (bi (isW T s (tkE T L s) ([104, 111, 108, 100] : List Nat)))) ∧ MM = M) := by
  refine ht_of (e := E_X4_tokenIs) rfl (?_ : EvI X E_X4_tokenIs (0, [some (.inr (.inr (some (4, 0, 0)))), some (.inr (.inr (some (31, 0, 0)))), none], [], M) _)
  obtain ⟨t1, t2, t3, t4, t5⟩ := tk_r (T := T) hs.2
  refine seg_ok 8 (⟨by omega, ?_⟩ : ((-2147483648 : Int) ≤ ((M 4 0 0 4) - (M 4 0 0 3)) ∧ ((M 4 0 0 4) - (M 4 0 0 3)) < 2147483648) ∧ EvI X E_X4_tokenIs (if ((M 4 0 0 4) - (M 4 0 0 3)) = 4 then 18 else 16, [some (.inr (.inr (some (4, 0, 0)))), some (.inr (.inr (some (31, 0, 0)))), none], [], M) _)
  refine ev_if (fun h13 => ?_) (fun h13 => ?_)
  · refine seg_ok 2 (?_ : EvI X E_X4_tokenIs (20, [some (.inr (.inr (some (4, 0, 0)))), some (.inr (.inr (some (31, 0, 0)))), some (.inl 0)], [], M) _)
    have L20 : ∀ (m20 : Nat) (i : Int), 5 - i < (m20 : Int) → (0 ≤ i) → (i ≤ 4) → (∀ k, 0 ≤ k → k < i → T (s + k) = Int.ofNat (([104, 111, 108, 100] : List Nat).getD k.toNat 0)) → EvI X E_X4_tokenIs (20, [some (.inr (.inr (some (4, 0, 0)))), some (.inr (.inr (some (31, 0, 0)))), some (.inl i)], [], M) (fun rr MM => rr = some (.inl (bi (isW T s (tkE T L s) ([104, 111, 108, 100] : List Nat)))) ∧ MM = M) := by
      intro m20
      induction m20 with
      | zero => intro i hm20 a1 a0 a2; exact absurd hm20 (by omega)
      | succ m20 ih20 =>
        intro i hm20 a1 a0 a2
        refine seg_ok 4 (?_ : EvI X E_X4_tokenIs (if i < 4 then 28 else 55, [some (.inr (.inr (some (4, 0, 0)))), some (.inr (.inr (some (31, 0, 0)))), some (.inl i)], [], M) _)
        refine ev_if (fun h25 => ?_) (fun h25 => ?_)
        · refine seg_ok 11 (⟨by omega, by omega, by omega, ?_⟩ : ((-2147483648 : Int) ≤ ((M 4 0 0 3) + i) ∧ ((M 4 0 0 3) + i) < 2147483648) ∧ ((0 : Int) ≤ ((M 4 0 0 3) + i) ∧ ((M 4 0 0 3) + i) < 120) ∧ ((0 : Int) ≤ i ∧ i < 4) ∧ EvI X E_X4_tokenIs (if (M 15 0 0 ((M 4 0 0 3) + i)) = (Int.ofNat (([104, 111, 108, 100] : List Nat).getD (i).toNat 0)) then 49 else 47, [some (.inr (.inr (some (4, 0, 0)))), some (.inr (.inr (some (31, 0, 0)))), some (.inl i)], [], M) _)
          refine ev_if (fun h44 => ?_) (fun h44 => ?_)
          · refine seg_ok 2 (⟨by omega, ?_⟩ : ((-2147483648 : Int) ≤ (i + 1) ∧ (i + 1) < 2147483648) ∧ EvI X E_X4_tokenIs (20, [some (.inr (.inr (some (4, 0, 0)))), some (.inr (.inr (some (31, 0, 0)))), some (.inl (i + 1))], [], M) _)
            refine ih20 (i + 1) (by omega) (by omega) (by omega) (fun k a b => if z : k = i then (by rw [z, ← hT (s + i) (by omega) (by omega), ← h3]; exact h44) else a2 k a (by omega))
          · refine seg_ok 1 (?_ : EvI X E_X4_tokenIs (48, [some (.inr (.inr (some (4, 0, 0)))), some (.inr (.inr (some (31, 0, 0)))), some (.inl i)], [.inl 0], M) _)
            refine ev_rt (r := some (.inl 0)) rfl (⟨by decide, ?_⟩)
            exact ⟨rint (cif_f (fun z => h44 (by rw [h3, hT (s + i) (by omega) (by omega)]; exact z.2 i a1 (show i < (4 : Int) by omega)))).symm, rfl⟩
        · refine seg_ok 1 (?_ : EvI X E_X4_tokenIs (56, [some (.inr (.inr (some (4, 0, 0)))), some (.inr (.inr (some (31, 0, 0)))), some (.inl i)], [.inl 1], M) _)
          refine ev_rt (r := some (.inl 1)) rfl (⟨by decide, ?_⟩)
          exact ⟨rint (cif_t ⟨(by show (tkE T L s - s : Int) = 4; omega), fun k k0 k1 => a2 k k0 (Int.lt_of_lt_of_le k1 (show (4 : Int) ≤ i by omega))⟩).symm, rfl⟩
    refine L20 ((5 - 0) + 1 : Int).toNat 0 (by omega) (by omega) (by omega) (fun k a b => absurd b (by omega))
  · refine seg_ok 1 (?_ : EvI X E_X4_tokenIs (17, [some (.inr (.inr (some (4, 0, 0)))), some (.inr (.inr (some (31, 0, 0)))), none], [.inl 0], M) _)
    refine ev_rt (r := some (.inl 0)) rfl (⟨by decide, ?_⟩)
    exact ⟨rint (cif_f (fun z => by have z1 : (tkE T L s - s : Int) = 4 := z.1; omega)).symm, rfl⟩
theorem d_tokenIs_1 {M : NM} {T : Int → Int} {L : Int} {s : Int} (hL : M 4 0 0 2 = L) (hL2 : 0 ≤ L ∧ L ≤ 120) (hT : ∀ k, 0 ≤ k → k < L → M 15 0 0 k = T k) (hs : 0 ≤ s ∧ s ≤ L) (h3 : M 4 0 0 3 = s) (h4 : M 4 0 0 4 = tkE T L s) : HT X z_X4_tokenIs [.inr (.inr (some (4, 0, 0))), .inr (.inr (some (31, 1, 0)))] M (fun rr MM => rr = some (.inl (bi (isW T s (tkE T L s) ([98, 117, 121] : List Nat)))) ∧ MM = M) := by
  refine ht_of (e := E_X4_tokenIs) rfl (?_ : EvI X E_X4_tokenIs (0, [some (.inr (.inr (some (4, 0, 0)))), some (.inr (.inr (some (31, 1, 0)))), none], [], M) _)
  obtain ⟨t1, t2, t3, t4, t5⟩ := tk_r (T := T) hs.2
  refine seg_ok 8 (⟨by omega, ?_⟩ : ((-2147483648 : Int) ≤ ((M 4 0 0 4) - (M 4 0 0 3)) ∧ ((M 4 0 0 4) - (M 4 0 0 3)) < 2147483648) ∧ EvI X E_X4_tokenIs (if ((M 4 0 0 4) - (M 4 0 0 3)) = 3 then 18 else 16, [some (.inr (.inr (some (4, 0, 0)))), some (.inr (.inr (some (31, 1, 0)))), none], [], M) _)
  refine ev_if (fun h13 => ?_) (fun h13 => ?_)
  · refine seg_ok 2 (?_ : EvI X E_X4_tokenIs (20, [some (.inr (.inr (some (4, 0, 0)))), some (.inr (.inr (some (31, 1, 0)))), some (.inl 0)], [], M) _)
    have L20 : ∀ (m20 : Nat) (i : Int), 4 - i < (m20 : Int) → (0 ≤ i) → (i ≤ 3) → (∀ k, 0 ≤ k → k < i → T (s + k) = Int.ofNat (([98, 117, 121] : List Nat).getD k.toNat 0)) → EvI X E_X4_tokenIs (20, [some (.inr (.inr (some (4, 0, 0)))), some (.inr (.inr (some (31, 1, 0)))), some (.inl i)], [], M) (fun rr MM => rr = some (.inl (bi (isW T s (tkE T L s) ([98, 117, 121] : List Nat)))) ∧ MM = M) := by
      intro m20
      induction m20 with
      | zero => intro i hm20 a1 a0 a2; exact absurd hm20 (by omega)
      | succ m20 ih20 =>
        intro i hm20 a1 a0 a2
        refine seg_ok 4 (?_ : EvI X E_X4_tokenIs (if i < 3 then 28 else 55, [some (.inr (.inr (some (4, 0, 0)))), some (.inr (.inr (some (31, 1, 0)))), some (.inl i)], [], M) _)
        refine ev_if (fun h25 => ?_) (fun h25 => ?_)
        · refine seg_ok 11 (⟨by omega, by omega, by omega, ?_⟩ : ((-2147483648 : Int) ≤ ((M 4 0 0 3) + i) ∧ ((M 4 0 0 3) + i) < 2147483648) ∧ ((0 : Int) ≤ ((M 4 0 0 3) + i) ∧ ((M 4 0 0 3) + i) < 120) ∧ ((0 : Int) ≤ i ∧ i < 3) ∧ EvI X E_X4_tokenIs (if (M 15 0 0 ((M 4 0 0 3) + i)) = (Int.ofNat (([98, 117, 121] : List Nat).getD (i).toNat 0)) then 49 else 47, [some (.inr (.inr (some (4, 0, 0)))), some (.inr (.inr (some (31, 1, 0)))), some (.inl i)], [], M) _)
          refine ev_if (fun h44 => ?_) (fun h44 => ?_)
          · refine seg_ok 2 (⟨by omega, ?_⟩ : ((-2147483648 : Int) ≤ (i + 1) ∧ (i + 1) < 2147483648) ∧ EvI X E_X4_tokenIs (20, [some (.inr (.inr (some (4, 0, 0)))), some (.inr (.inr (some (31, 1, 0)))), some (.inl (i + 1))], [], M) _)
            refine ih20 (i + 1) (by omega) (by omega) (by omega) (fun k a b => if z : k = i then (by rw [z, ← hT (s + i) (by omega) (by omega), ← h3]; exact h44) else a2 k a (by omega))
          · refine seg_ok 1 (?_ : EvI X E_X4_tokenIs (48, [some (.inr (.inr (some (4, 0, 0)))), some (.inr (.inr (some (31, 1, 0)))), some (.inl i)], [.inl 0], M) _)
            refine ev_rt (r := some (.inl 0)) rfl (⟨by decide, ?_⟩)
            exact ⟨rint (cif_f (fun z => h44 (by rw [h3, hT (s + i) (by omega) (by omega)]; exact z.2 i a1 (show i < (3 : Int) by omega)))).symm, rfl⟩
        · refine seg_ok 1 (?_ : EvI X E_X4_tokenIs (56, [some (.inr (.inr (some (4, 0, 0)))), some (.inr (.inr (some (31, 1, 0)))), some (.inl i)], [.inl 1], M) _)
          refine ev_rt (r := some (.inl 1)) rfl (⟨by decide, ?_⟩)
          exact ⟨rint (cif_t ⟨(by show (tkE T L s - s : Int) = 3; omega), fun k k0 k1 => a2 k k0 (Int.lt_of_lt_of_le k1 (show (3 : Int) ≤ i by omega))⟩).symm, rfl⟩
    refine L20 ((4 - 0) + 1 : Int).toNat 0 (by omega) (by omega) (by omega) (fun k a b => absurd b (by omega))
  · refine seg_ok 1 (?_ : EvI X E_X4_tokenIs (17, [some (.inr (.inr (some (4, 0, 0)))), some (.inr (.inr (some (31, 1, 0)))), none], [.inl 0], M) _)
    refine ev_rt (r := some (.inl 0)) rfl (⟨by decide, ?_⟩)
    exact ⟨rint (cif_f (fun z => by have z1 : (tkE T L s - s : Int) = 3 := z.1; omega)).symm, rfl⟩
theorem d_tokenIs_2 {M : NM} {T : Int → Int} {L : Int} {s : Int} (hL : M 4 0 0 2 = L) (hL2 : 0 ≤ L ∧ L ≤ 120) (hT : ∀ k, 0 ≤ k → k < L → M 15 0 0 k = T k) (hs : 0 ≤ s ∧ s ≤ L) (h3 : M 4 0 0 3 = s) (h4 : M 4 0 0 4 = tkE T L s) : HT X z_X4_tokenIs [.inr (.inr (some (4, 0, 0))), .inr (.inr (some (31, 2, 0)))] M (fun rr MM => rr = some (.inl (bi (isW T s (tkE T L s) ([100, 114, 111, 112] : List Nat)))) ∧ MM = M) := by
  refine ht_of (e := E_X4_tokenIs) rfl (?_ : EvI X E_X4_tokenIs (0, [some (.inr (.inr (some (4, 0, 0)))), some (.inr (.inr (some (31, 2, 0)))), none], [], M) _)
  obtain ⟨t1, t2, t3, t4, t5⟩ := tk_r (T := T) hs.2
  refine seg_ok 8 (⟨by omega, ?_⟩ : ((-2147483648 : Int) ≤ ((M 4 0 0 4) - (M 4 0 0 3)) ∧ ((M 4 0 0 4) - (M 4 0 0 3)) < 2147483648) ∧ EvI X E_X4_tokenIs (if ((M 4 0 0 4) - (M 4 0 0 3)) = 4 then 18 else 16, [some (.inr (.inr (some (4, 0, 0)))), some (.inr (.inr (some (31, 2, 0)))), none], [], M) _)
  refine ev_if (fun h13 => ?_) (fun h13 => ?_)
  · refine seg_ok 2 (?_ : EvI X E_X4_tokenIs (20, [some (.inr (.inr (some (4, 0, 0)))), some (.inr (.inr (some (31, 2, 0)))), some (.inl 0)], [], M) _)
    have L20 : ∀ (m20 : Nat) (i : Int), 5 - i < (m20 : Int) → (0 ≤ i) → (i ≤ 4) → (∀ k, 0 ≤ k → k < i → T (s + k) = Int.ofNat (([100, 114, 111, 112] : List Nat).getD k.toNat 0)) → EvI X E_X4_tokenIs (20, [some (.inr (.inr (some (4, 0, 0)))), some (.inr (.inr (some (31, 2, 0)))), some (.inl i)], [], M) (fun rr MM => rr = some (.inl (bi (isW T s (tkE T L s) ([100, 114, 111, 112] : List Nat)))) ∧ MM = M) := by
      intro m20
      induction m20 with
      | zero => intro i hm20 a1 a0 a2; exact absurd hm20 (by omega)
      | succ m20 ih20 =>
        intro i hm20 a1 a0 a2
        refine seg_ok 4 (?_ : EvI X E_X4_tokenIs (if i < 4 then 28 else 55, [some (.inr (.inr (some (4, 0, 0)))), some (.inr (.inr (some (31, 2, 0)))), some (.inl i)], [], M) _)
        refine ev_if (fun h25 => ?_) (fun h25 => ?_)
        · refine seg_ok 11 (⟨by omega, by omega, by omega, ?_⟩ : ((-2147483648 : Int) ≤ ((M 4 0 0 3) + i) ∧ ((M 4 0 0 3) + i) < 2147483648) ∧ ((0 : Int) ≤ ((M 4 0 0 3) + i) ∧ ((M 4 0 0 3) + i) < 120) ∧ ((0 : Int) ≤ i ∧ i < 4) ∧ EvI X E_X4_tokenIs (if (M 15 0 0 ((M 4 0 0 3) + i)) = (Int.ofNat (([100, 114, 111, 112] : List Nat).getD (i).toNat 0)) then 49 else 47, [some (.inr (.inr (some (4, 0, 0)))), some (.inr (.inr (some (31, 2, 0)))), some (.inl i)], [], M) _)
          refine ev_if (fun h44 => ?_) (fun h44 => ?_)
          · refine seg_ok 2 (⟨by omega, ?_⟩ : ((-2147483648 : Int) ≤ (i + 1) ∧ (i + 1) < 2147483648) ∧ EvI X E_X4_tokenIs (20, [some (.inr (.inr (some (4, 0, 0)))), some (.inr (.inr (some (31, 2, 0)))), some (.inl (i + 1))], [], M) _)
            refine ih20 (i + 1) (by omega) (by omega) (by omega) (fun k a b => if z : k = i then (by rw [z, ← hT (s + i) (by omega) (by omega), ← h3]; exact h44) else a2 k a (by omega))
          · refine seg_ok 1 (?_ : EvI X E_X4_tokenIs (48, [some (.inr (.inr (some (4, 0, 0)))), some (.inr (.inr (some (31, 2, 0)))), some (.inl i)], [.inl 0], M) _)
            refine ev_rt (r := some (.inl 0)) rfl (⟨by decide, ?_⟩)
            exact ⟨rint (cif_f (fun z => h44 (by rw [h3, hT (s + i) (by omega) (by omega)]; exact z.2 i a1 (show i < (4 : Int) by omega)))).symm, rfl⟩
        · refine seg_ok 1 (?_ : EvI X E_X4_tokenIs (56, [some (.inr (.inr (some (4, 0, 0)))), some (.inr (.inr (some (31, 2, 0)))), some (.inl i)], [.inl 1], M) _)
          refine ev_rt (r := some (.inl 1)) rfl (⟨by decide, ?_⟩)
          exact ⟨rint (cif_t ⟨(by show (tkE T L s - s : Int) = 4; omega), fun k k0 k1 => a2 k k0 (Int.lt_of_lt_of_le k1 (show (4 : Int) ≤ i by omega))⟩).symm, rfl⟩
    refine L20 ((5 - 0) + 1 : Int).toNat 0 (by omega) (by omega) (by omega) (fun k a b => absurd b (by omega))
  · refine seg_ok 1 (?_ : EvI X E_X4_tokenIs (17, [some (.inr (.inr (some (4, 0, 0)))), some (.inr (.inr (some (31, 2, 0)))), none], [.inl 0], M) _)
    refine ev_rt (r := some (.inl 0)) rfl (⟨by decide, ?_⟩)
    exact ⟨rint (cif_f (fun z => by have z1 : (tkE T L s - s : Int) = 4 := z.1; omega)).symm, rfl⟩
theorem d_tokenIs_3 {M : NM} {T : Int → Int} {L : Int} {s : Int} (hL : M 4 0 0 2 = L) (hL2 : 0 ≤ L ∧ L ≤ 120) (hT : ∀ k, 0 ≤ k → k < L → M 15 0 0 k = T k) (hs : 0 ≤ s ∧ s ≤ L) (h3 : M 4 0 0 3 = s) (h4 : M 4 0 0 4 = tkE T L s) : HT X z_X4_tokenIs [.inr (.inr (some (4, 0, 0))), .inr (.inr (some (31, 3, 0)))] M (fun rr MM => rr = some (.inl (bi (isW T s (tkE T L s) ([98, 97, 99, 107] : List Nat)))) ∧ MM = M) := by
  refine ht_of (e := E_X4_tokenIs) rfl (?_ : EvI X E_X4_tokenIs (0, [some (.inr (.inr (some (4, 0, 0)))), some (.inr (.inr (some (31, 3, 0)))), none], [], M) _)
  obtain ⟨t1, t2, t3, t4, t5⟩ := tk_r (T := T) hs.2
  refine seg_ok 8 (⟨by omega, ?_⟩ : ((-2147483648 : Int) ≤ ((M 4 0 0 4) - (M 4 0 0 3)) ∧ ((M 4 0 0 4) - (M 4 0 0 3)) < 2147483648) ∧ EvI X E_X4_tokenIs (if ((M 4 0 0 4) - (M 4 0 0 3)) = 4 then 18 else 16, [some (.inr (.inr (some (4, 0, 0)))), some (.inr (.inr (some (31, 3, 0)))), none], [], M) _)
  refine ev_if (fun h13 => ?_) (fun h13 => ?_)
  · refine seg_ok 2 (?_ : EvI X E_X4_tokenIs (20, [some (.inr (.inr (some (4, 0, 0)))), some (.inr (.inr (some (31, 3, 0)))), some (.inl 0)], [], M) _)
    have L20 : ∀ (m20 : Nat) (i : Int), 5 - i < (m20 : Int) → (0 ≤ i) → (i ≤ 4) → (∀ k, 0 ≤ k → k < i → T (s + k) = Int.ofNat (([98, 97, 99, 107] : List Nat).getD k.toNat 0)) → EvI X E_X4_tokenIs (20, [some (.inr (.inr (some (4, 0, 0)))), some (.inr (.inr (some (31, 3, 0)))), some (.inl i)], [], M) (fun rr MM => rr = some (.inl (bi (isW T s (tkE T L s) ([98, 97, 99, 107] : List Nat)))) ∧ MM = M) := by
      intro m20
      induction m20 with
      | zero => intro i hm20 a1 a0 a2; exact absurd hm20 (by omega)
      | succ m20 ih20 =>
        intro i hm20 a1 a0 a2
        refine seg_ok 4 (?_ : EvI X E_X4_tokenIs (if i < 4 then 28 else 55, [some (.inr (.inr (some (4, 0, 0)))), some (.inr (.inr (some (31, 3, 0)))), some (.inl i)], [], M) _)
        refine ev_if (fun h25 => ?_) (fun h25 => ?_)
        · refine seg_ok 11 (⟨by omega, by omega, by omega, ?_⟩ : ((-2147483648 : Int) ≤ ((M 4 0 0 3) + i) ∧ ((M 4 0 0 3) + i) < 2147483648) ∧ ((0 : Int) ≤ ((M 4 0 0 3) + i) ∧ ((M 4 0 0 3) + i) < 120) ∧ ((0 : Int) ≤ i ∧ i < 4) ∧ EvI X E_X4_tokenIs (if (M 15 0 0 ((M 4 0 0 3) + i)) = (Int.ofNat (([98, 97, 99, 107] : List Nat).getD (i).toNat 0)) then 49 else 47, [some (.inr (.inr (some (4, 0, 0)))), some (.inr (.inr (some (31, 3, 0)))), some (.inl i)], [], M) _)
          refine ev_if (fun h44 => ?_) (fun h44 => ?_)
          · refine seg_ok 2 (⟨by omega, ?_⟩ : ((-2147483648 : Int) ≤ (i + 1) ∧ (i + 1) < 2147483648) ∧ EvI X E_X4_tokenIs (20, [some (.inr (.inr (some (4, 0, 0)))), some (.inr (.inr (some (31, 3, 0)))), some (.inl (i + 1))], [], M) _)
            refine ih20 (i + 1) (by omega) (by omega) (by omega) (fun k a b => if z : k = i then (by rw [z, ← hT (s + i) (by omega) (by omega), ← h3]; exact h44) else a2 k a (by omega))
          · refine seg_ok 1 (?_ : EvI X E_X4_tokenIs (48, [some (.inr (.inr (some (4, 0, 0)))), some (.inr (.inr (some (31, 3, 0)))), some (.inl i)], [.inl 0], M) _)
            refine ev_rt (r := some (.inl 0)) rfl (⟨by decide, ?_⟩)
            exact ⟨rint (cif_f (fun z => h44 (by rw [h3, hT (s + i) (by omega) (by omega)]; exact z.2 i a1 (show i < (4 : Int) by omega)))).symm, rfl⟩
        · refine seg_ok 1 (?_ : EvI X E_X4_tokenIs (56, [some (.inr (.inr (some (4, 0, 0)))), some (.inr (.inr (some (31, 3, 0)))), some (.inl i)], [.inl 1], M) _)
          refine ev_rt (r := some (.inl 1)) rfl (⟨by decide, ?_⟩)
          exact ⟨rint (cif_t ⟨(by show (tkE T L s - s : Int) = 4; omega), fun k k0 k1 => a2 k k0 (Int.lt_of_lt_of_le k1 (show (4 : Int) ≤ i by omega))⟩).symm, rfl⟩
    refine L20 ((5 - 0) + 1 : Int).toNat 0 (by omega) (by omega) (by omega) (fun k a b => absurd b (by omega))
  · refine seg_ok 1 (?_ : EvI X E_X4_tokenIs (17, [some (.inr (.inr (some (4, 0, 0)))), some (.inr (.inr (some (31, 3, 0)))), none], [.inl 0], M) _)
    refine ev_rt (r := some (.inl 0)) rfl (⟨by decide, ?_⟩)
    exact ⟨rint (cif_f (fun z => by have z1 : (tkE T L s - s : Int) = 4 := z.1; omega)).symm, rfl⟩
theorem d_tokenIs_4 {M : NM} {T : Int → Int} {L : Int} {s : Int} (hL : M 4 0 0 2 = L) (hL2 : 0 ≤ L ∧ L ≤ 120) (hT : ∀ k, 0 ≤ k → k < L → M 15 0 0 k = T k) (hs : 0 ≤ s ∧ s ≤ L) (h3 : M 4 0 0 3 = s) (h4 : M 4 0 0 4 = tkE T L s) : HT X z_X4_tokenIs [.inr (.inr (some (4, 0, 0))), .inr (.inr (some (31, 4, 0)))] M (fun rr MM => rr = some (.inl (bi (isW T s (tkE T L s) ([105, 110] : List Nat)))) ∧ MM = M) := by
  refine ht_of (e := E_X4_tokenIs) rfl (?_ : EvI X E_X4_tokenIs (0, [some (.inr (.inr (some (4, 0, 0)))), some (.inr (.inr (some (31, 4, 0)))), none], [], M) _)
  obtain ⟨t1, t2, t3, t4, t5⟩ := tk_r (T := T) hs.2
  refine seg_ok 8 (⟨by omega, ?_⟩ : ((-2147483648 : Int) ≤ ((M 4 0 0 4) - (M 4 0 0 3)) ∧ ((M 4 0 0 4) - (M 4 0 0 3)) < 2147483648) ∧ EvI X E_X4_tokenIs (if ((M 4 0 0 4) - (M 4 0 0 3)) = 2 then 18 else 16, [some (.inr (.inr (some (4, 0, 0)))), some (.inr (.inr (some (31, 4, 0)))), none], [], M) _)
  refine ev_if (fun h13 => ?_) (fun h13 => ?_)
  · refine seg_ok 2 (?_ : EvI X E_X4_tokenIs (20, [some (.inr (.inr (some (4, 0, 0)))), some (.inr (.inr (some (31, 4, 0)))), some (.inl 0)], [], M) _)
    have L20 : ∀ (m20 : Nat) (i : Int), 3 - i < (m20 : Int) → (0 ≤ i) → (i ≤ 2) → (∀ k, 0 ≤ k → k < i → T (s + k) = Int.ofNat (([105, 110] : List Nat).getD k.toNat 0)) → EvI X E_X4_tokenIs (20, [some (.inr (.inr (some (4, 0, 0)))), some (.inr (.inr (some (31, 4, 0)))), some (.inl i)], [], M) (fun rr MM => rr = some (.inl (bi (isW T s (tkE T L s) ([105, 110] : List Nat)))) ∧ MM = M) := by
      intro m20
      induction m20 with
      | zero => intro i hm20 a1 a0 a2; exact absurd hm20 (by omega)
      | succ m20 ih20 =>
        intro i hm20 a1 a0 a2
        refine seg_ok 4 (?_ : EvI X E_X4_tokenIs (if i < 2 then 28 else 55, [some (.inr (.inr (some (4, 0, 0)))), some (.inr (.inr (some (31, 4, 0)))), some (.inl i)], [], M) _)
        refine ev_if (fun h25 => ?_) (fun h25 => ?_)
        · refine seg_ok 11 (⟨by omega, by omega, by omega, ?_⟩ : ((-2147483648 : Int) ≤ ((M 4 0 0 3) + i) ∧ ((M 4 0 0 3) + i) < 2147483648) ∧ ((0 : Int) ≤ ((M 4 0 0 3) + i) ∧ ((M 4 0 0 3) + i) < 120) ∧ ((0 : Int) ≤ i ∧ i < 2) ∧ EvI X E_X4_tokenIs (if (M 15 0 0 ((M 4 0 0 3) + i)) = (Int.ofNat (([105, 110] : List Nat).getD (i).toNat 0)) then 49 else 47, [some (.inr (.inr (some (4, 0, 0)))), some (.inr (.inr (some (31, 4, 0)))), some (.inl i)], [], M) _)
          refine ev_if (fun h44 => ?_) (fun h44 => ?_)
          · refine seg_ok 2 (⟨by omega, ?_⟩ : ((-2147483648 : Int) ≤ (i + 1) ∧ (i + 1) < 2147483648) ∧ EvI X E_X4_tokenIs (20, [some (.inr (.inr (some (4, 0, 0)))), some (.inr (.inr (some (31, 4, 0)))), some (.inl (i + 1))], [], M) _)
            refine ih20 (i + 1) (by omega) (by omega) (by omega) (fun k a b => if z : k = i then (by rw [z, ← hT (s + i) (by omega) (by omega), ← h3]; exact h44) else a2 k a (by omega))
          · refine seg_ok 1 (?_ : EvI X E_X4_tokenIs (48, [some (.inr (.inr (some (4, 0, 0)))), some (.inr (.inr (some (31, 4, 0)))), some (.inl i)], [.inl 0], M) _)
            refine ev_rt (r := some (.inl 0)) rfl (⟨by decide, ?_⟩)
            exact ⟨rint (cif_f (fun z => h44 (by rw [h3, hT (s + i) (by omega) (by omega)]; exact z.2 i a1 (show i < (2 : Int) by omega)))).symm, rfl⟩
        · refine seg_ok 1 (?_ : EvI X E_X4_tokenIs (56, [some (.inr (.inr (some (4, 0, 0)))), some (.inr (.inr (some (31, 4, 0)))), some (.inl i)], [.inl 1], M) _)
          refine ev_rt (r := some (.inl 1)) rfl (⟨by decide, ?_⟩)
          exact ⟨rint (cif_t ⟨(by show (tkE T L s - s : Int) = 2; omega), fun k k0 k1 => a2 k k0 (Int.lt_of_lt_of_le k1 (show (2 : Int) ≤ i by omega))⟩).symm, rfl⟩
    refine L20 ((3 - 0) + 1 : Int).toNat 0 (by omega) (by omega) (by omega) (fun k a b => absurd b (by omega))
  · refine seg_ok 1 (?_ : EvI X E_X4_tokenIs (17, [some (.inr (.inr (some (4, 0, 0)))), some (.inr (.inr (some (31, 4, 0)))), none], [.inl 0], M) _)
    refine ev_rt (r := some (.inl 0)) rfl (⟨by decide, ?_⟩)
    exact ⟨rint (cif_f (fun z => by have z1 : (tkE T L s - s : Int) = 2 := z.1; omega)).symm, rfl⟩
theorem d_tokenIs_5 {M : NM} {T : Int → Int} {L : Int} {s : Int} (hL : M 4 0 0 2 = L) (hL2 : 0 ≤ L ∧ L ≤ 120) (hT : ∀ k, 0 ≤ k → k < L → M 15 0 0 k = T k) (hs : 0 ≤ s ∧ s ≤ L) (h3 : M 4 0 0 3 = s) (h4 : M 4 0 0 4 = tkE T L s) : HT X z_X4_tokenIs [.inr (.inr (some (4, 0, 0))), .inr (.inr (some (31, 5, 0)))] M (fun rr MM => rr = some (.inl (bi (isW T s (tkE T L s) ([117, 112] : List Nat)))) ∧ MM = M) := by
  refine ht_of (e := E_X4_tokenIs) rfl (?_ : EvI X E_X4_tokenIs (0, [some (.inr (.inr (some (4, 0, 0)))), some (.inr (.inr (some (31, 5, 0)))), none], [], M) _)
  obtain ⟨t1, t2, t3, t4, t5⟩ := tk_r (T := T) hs.2
  refine seg_ok 8 (⟨by omega, ?_⟩ : ((-2147483648 : Int) ≤ ((M 4 0 0 4) - (M 4 0 0 3)) ∧ ((M 4 0 0 4) - (M 4 0 0 3)) < 2147483648) ∧ EvI X E_X4_tokenIs (if ((M 4 0 0 4) - (M 4 0 0 3)) = 2 then 18 else 16, [some (.inr (.inr (some (4, 0, 0)))), some (.inr (.inr (some (31, 5, 0)))), none], [], M) _)
  refine ev_if (fun h13 => ?_) (fun h13 => ?_)
  · refine seg_ok 2 (?_ : EvI X E_X4_tokenIs (20, [some (.inr (.inr (some (4, 0, 0)))), some (.inr (.inr (some (31, 5, 0)))), some (.inl 0)], [], M) _)
    have L20 : ∀ (m20 : Nat) (i : Int), 3 - i < (m20 : Int) → (0 ≤ i) → (i ≤ 2) → (∀ k, 0 ≤ k → k < i → T (s + k) = Int.ofNat (([117, 112] : List Nat).getD k.toNat 0)) → EvI X E_X4_tokenIs (20, [some (.inr (.inr (some (4, 0, 0)))), some (.inr (.inr (some (31, 5, 0)))), some (.inl i)], [], M) (fun rr MM => rr = some (.inl (bi (isW T s (tkE T L s) ([117, 112] : List Nat)))) ∧ MM = M) := by
      intro m20
      induction m20 with
      | zero => intro i hm20 a1 a0 a2; exact absurd hm20 (by omega)
      | succ m20 ih20 =>
        intro i hm20 a1 a0 a2
        refine seg_ok 4 (?_ : EvI X E_X4_tokenIs (if i < 2 then 28 else 55, [some (.inr (.inr (some (4, 0, 0)))), some (.inr (.inr (some (31, 5, 0)))), some (.inl i)], [], M) _)
        refine ev_if (fun h25 => ?_) (fun h25 => ?_)
        · refine seg_ok 11 (⟨by omega, by omega, by omega, ?_⟩ : ((-2147483648 : Int) ≤ ((M 4 0 0 3) + i) ∧ ((M 4 0 0 3) + i) < 2147483648) ∧ ((0 : Int) ≤ ((M 4 0 0 3) + i) ∧ ((M 4 0 0 3) + i) < 120) ∧ ((0 : Int) ≤ i ∧ i < 2) ∧ EvI X E_X4_tokenIs (if (M 15 0 0 ((M 4 0 0 3) + i)) = (Int.ofNat (([117, 112] : List Nat).getD (i).toNat 0)) then 49 else 47, [some (.inr (.inr (some (4, 0, 0)))), some (.inr (.inr (some (31, 5, 0)))), some (.inl i)], [], M) _)
          refine ev_if (fun h44 => ?_) (fun h44 => ?_)
          · refine seg_ok 2 (⟨by omega, ?_⟩ : ((-2147483648 : Int) ≤ (i + 1) ∧ (i + 1) < 2147483648) ∧ EvI X E_X4_tokenIs (20, [some (.inr (.inr (some (4, 0, 0)))), some (.inr (.inr (some (31, 5, 0)))), some (.inl (i + 1))], [], M) _)
            refine ih20 (i + 1) (by omega) (by omega) (by omega) (fun k a b => if z : k = i then (by rw [z, ← hT (s + i) (by omega) (by omega), ← h3]; exact h44) else a2 k a (by omega))
          · refine seg_ok 1 (?_ : EvI X E_X4_tokenIs (48, [some (.inr (.inr (some (4, 0, 0)))), some (.inr (.inr (some (31, 5, 0)))), some (.inl i)], [.inl 0], M) _)
            refine ev_rt (r := some (.inl 0)) rfl (⟨by decide, ?_⟩)
            exact ⟨rint (cif_f (fun z => h44 (by rw [h3, hT (s + i) (by omega) (by omega)]; exact z.2 i a1 (show i < (2 : Int) by omega)))).symm, rfl⟩
        · refine seg_ok 1 (?_ : EvI X E_X4_tokenIs (56, [some (.inr (.inr (some (4, 0, 0)))), some (.inr (.inr (some (31, 5, 0)))), some (.inl i)], [.inl 1], M) _)
          refine ev_rt (r := some (.inl 1)) rfl (⟨by decide, ?_⟩)
          exact ⟨rint (cif_t ⟨(by show (tkE T L s - s : Int) = 2; omega), fun k k0 k1 => a2 k k0 (Int.lt_of_lt_of_le k1 (show (2 : Int) ≤ i by omega))⟩).symm, rfl⟩
    refine L20 ((3 - 0) + 1 : Int).toNat 0 (by omega) (by omega) (by omega) (fun k a b => absurd b (by omega))
  · refine seg_ok 1 (?_ : EvI X E_X4_tokenIs (17, [some (.inr (.inr (some (4, 0, 0)))), some (.inr (.inr (some (31, 5, 0)))), none], [.inl 0], M) _)
    refine ev_rt (r := some (.inl 0)) rfl (⟨by decide, ?_⟩)
    exact ⟨rint (cif_f (fun z => by have z1 : (tkE T L s - s : Int) = 2 := z.1; omega)).symm, rfl⟩
theorem d_tokenIs_6 {M : NM} {T : Int → Int} {L : Int} {s : Int} (hL : M 4 0 0 2 = L) (hL2 : 0 ≤ L ∧ L ≤ 120) (hT : ∀ k, 0 ≤ k → k < L → M 15 0 0 k = T k) (hs : 0 ≤ s ∧ s ≤ L) (h3 : M 4 0 0 3 = s) (h4 : M 4 0 0 4 = tkE T L s) : HT X z_X4_tokenIs [.inr (.inr (some (4, 0, 0))), .inr (.inr (some (31, 6, 0)))] M (fun rr MM => rr = some (.inl (bi (isW T s (tkE T L s) ([119, 97, 105, 116] : List Nat)))) ∧ MM = M) := by
  refine ht_of (e := E_X4_tokenIs) rfl (?_ : EvI X E_X4_tokenIs (0, [some (.inr (.inr (some (4, 0, 0)))), some (.inr (.inr (some (31, 6, 0)))), none], [], M) _)
  obtain ⟨t1, t2, t3, t4, t5⟩ := tk_r (T := T) hs.2
  refine seg_ok 8 (⟨by omega, ?_⟩ : ((-2147483648 : Int) ≤ ((M 4 0 0 4) - (M 4 0 0 3)) ∧ ((M 4 0 0 4) - (M 4 0 0 3)) < 2147483648) ∧ EvI X E_X4_tokenIs (if ((M 4 0 0 4) - (M 4 0 0 3)) = 4 then 18 else 16, [some (.inr (.inr (some (4, 0, 0)))), some (.inr (.inr (some (31, 6, 0)))), none], [], M) _)
  refine ev_if (fun h13 => ?_) (fun h13 => ?_)
  · refine seg_ok 2 (?_ : EvI X E_X4_tokenIs (20, [some (.inr (.inr (some (4, 0, 0)))), some (.inr (.inr (some (31, 6, 0)))), some (.inl 0)], [], M) _)
    have L20 : ∀ (m20 : Nat) (i : Int), 5 - i < (m20 : Int) → (0 ≤ i) → (i ≤ 4) → (∀ k, 0 ≤ k → k < i → T (s + k) = Int.ofNat (([119, 97, 105, 116] : List Nat).getD k.toNat 0)) → EvI X E_X4_tokenIs (20, [some (.inr (.inr (some (4, 0, 0)))), some (.inr (.inr (some (31, 6, 0)))), some (.inl i)], [], M) (fun rr MM => rr = some (.inl (bi (isW T s (tkE T L s) ([119, 97, 105, 116] : List Nat)))) ∧ MM = M) := by
      intro m20
      induction m20 with
      | zero => intro i hm20 a1 a0 a2; exact absurd hm20 (by omega)
      | succ m20 ih20 =>
        intro i hm20 a1 a0 a2
        refine seg_ok 4 (?_ : EvI X E_X4_tokenIs (if i < 4 then 28 else 55, [some (.inr (.inr (some (4, 0, 0)))), some (.inr (.inr (some (31, 6, 0)))), some (.inl i)], [], M) _)
        refine ev_if (fun h25 => ?_) (fun h25 => ?_)
        · refine seg_ok 11 (⟨by omega, by omega, by omega, ?_⟩ : ((-2147483648 : Int) ≤ ((M 4 0 0 3) + i) ∧ ((M 4 0 0 3) + i) < 2147483648) ∧ ((0 : Int) ≤ ((M 4 0 0 3) + i) ∧ ((M 4 0 0 3) + i) < 120) ∧ ((0 : Int) ≤ i ∧ i < 4) ∧ EvI X E_X4_tokenIs (if (M 15 0 0 ((M 4 0 0 3) + i)) = (Int.ofNat (([119, 97, 105, 116] : List Nat).getD (i).toNat 0)) then 49 else 47, [some (.inr (.inr (some (4, 0, 0)))), some (.inr (.inr (some (31, 6, 0)))), some (.inl i)], [], M) _)
          refine ev_if (fun h44 => ?_) (fun h44 => ?_)
          · refine seg_ok 2 (⟨by omega, ?_⟩ : ((-2147483648 : Int) ≤ (i + 1) ∧ (i + 1) < 2147483648) ∧ EvI X E_X4_tokenIs (20, [some (.inr (.inr (some (4, 0, 0)))), some (.inr (.inr (some (31, 6, 0)))), some (.inl (i + 1))], [], M) _)
            refine ih20 (i + 1) (by omega) (by omega) (by omega) (fun k a b => if z : k = i then (by rw [z, ← hT (s + i) (by omega) (by omega), ← h3]; exact h44) else a2 k a (by omega))
          · refine seg_ok 1 (?_ : EvI X E_X4_tokenIs (48, [some (.inr (.inr (some (4, 0, 0)))), some (.inr (.inr (some (31, 6, 0)))), some (.inl i)], [.inl 0], M) _)
            refine ev_rt (r := some (.inl 0)) rfl (⟨by decide, ?_⟩)
            exact ⟨rint (cif_f (fun z => h44 (by rw [h3, hT (s + i) (by omega) (by omega)]; exact z.2 i a1 (show i < (4 : Int) by omega)))).symm, rfl⟩
        · refine seg_ok 1 (?_ : EvI X E_X4_tokenIs (56, [some (.inr (.inr (some (4, 0, 0)))), some (.inr (.inr (some (31, 6, 0)))), some (.inl i)], [.inl 1], M) _)
          refine ev_rt (r := some (.inl 1)) rfl (⟨by decide, ?_⟩)
          exact ⟨rint (cif_t ⟨(by show (tkE T L s - s : Int) = 4; omega), fun k k0 k1 => a2 k k0 (Int.lt_of_lt_of_le k1 (show (4 : Int) ≤ i by omega))⟩).symm, rfl⟩
    refine L20 ((5 - 0) + 1 : Int).toNat 0 (by omega) (by omega) (by omega) (fun k a b => absurd b (by omega))
  · refine seg_ok 1 (?_ : EvI X E_X4_tokenIs (17, [some (.inr (.inr (some (4, 0, 0)))), some (.inr (.inr (some (31, 6, 0)))), none], [.inl 0], M) _)
    refine ev_rt (r := some (.inl 0)) rfl (⟨by decide, ?_⟩)
    exact ⟨rint (cif_f (fun z => by have z1 : (tkE T L s - s : Int) = 4 := z.1; omega)).symm, rfl⟩
theorem d_tokenIs_7 {M : NM} {T : Int → Int} {L : Int} {s : Int} (hL : M 4 0 0 2 = L) (hL2 : 0 ≤ L ∧ L ≤ 120) (hT : ∀ k, 0 ≤ k → k < L → M 15 0 0 k = T k) (hs : 0 ≤ s ∧ s ≤ L) (h3 : M 4 0 0 3 = s) (h4 : M 4 0 0 4 = tkE T L s) : HT X z_X4_tokenIs [.inr (.inr (some (4, 0, 0))), .inr (.inr (some (31, 7, 0)))] M (fun rr MM => rr = some (.inl (bi (isW T s (tkE T L s) ([59] : List Nat)))) ∧ MM = M) := by
  refine ht_of (e := E_X4_tokenIs) rfl (?_ : EvI X E_X4_tokenIs (0, [some (.inr (.inr (some (4, 0, 0)))), some (.inr (.inr (some (31, 7, 0)))), none], [], M) _)
  obtain ⟨t1, t2, t3, t4, t5⟩ := tk_r (T := T) hs.2
  refine seg_ok 8 (⟨by omega, ?_⟩ : ((-2147483648 : Int) ≤ ((M 4 0 0 4) - (M 4 0 0 3)) ∧ ((M 4 0 0 4) - (M 4 0 0 3)) < 2147483648) ∧ EvI X E_X4_tokenIs (if ((M 4 0 0 4) - (M 4 0 0 3)) = 1 then 18 else 16, [some (.inr (.inr (some (4, 0, 0)))), some (.inr (.inr (some (31, 7, 0)))), none], [], M) _)
  refine ev_if (fun h13 => ?_) (fun h13 => ?_)
  · refine seg_ok 2 (?_ : EvI X E_X4_tokenIs (20, [some (.inr (.inr (some (4, 0, 0)))), some (.inr (.inr (some (31, 7, 0)))), some (.inl 0)], [], M) _)
    have L20 : ∀ (m20 : Nat) (i : Int), 2 - i < (m20 : Int) → (0 ≤ i) → (i ≤ 1) → (∀ k, 0 ≤ k → k < i → T (s + k) = Int.ofNat (([59] : List Nat).getD k.toNat 0)) → EvI X E_X4_tokenIs (20, [some (.inr (.inr (some (4, 0, 0)))), some (.inr (.inr (some (31, 7, 0)))), some (.inl i)], [], M) (fun rr MM => rr = some (.inl (bi (isW T s (tkE T L s) ([59] : List Nat)))) ∧ MM = M) := by
      intro m20
      induction m20 with
      | zero => intro i hm20 a1 a0 a2; exact absurd hm20 (by omega)
      | succ m20 ih20 =>
        intro i hm20 a1 a0 a2
        refine seg_ok 4 (?_ : EvI X E_X4_tokenIs (if i < 1 then 28 else 55, [some (.inr (.inr (some (4, 0, 0)))), some (.inr (.inr (some (31, 7, 0)))), some (.inl i)], [], M) _)
        refine ev_if (fun h25 => ?_) (fun h25 => ?_)
        · refine seg_ok 11 (⟨by omega, by omega, by omega, ?_⟩ : ((-2147483648 : Int) ≤ ((M 4 0 0 3) + i) ∧ ((M 4 0 0 3) + i) < 2147483648) ∧ ((0 : Int) ≤ ((M 4 0 0 3) + i) ∧ ((M 4 0 0 3) + i) < 120) ∧ ((0 : Int) ≤ i ∧ i < 1) ∧ EvI X E_X4_tokenIs (if (M 15 0 0 ((M 4 0 0 3) + i)) = (Int.ofNat (([59] : List Nat).getD (i).toNat 0)) then 49 else 47, [some (.inr (.inr (some (4, 0, 0)))), some (.inr (.inr (some (31, 7, 0)))), some (.inl i)], [], M) _)
          refine ev_if (fun h44 => ?_) (fun h44 => ?_)
          · refine seg_ok 2 (⟨by omega, ?_⟩ : ((-2147483648 : Int) ≤ (i + 1) ∧ (i + 1) < 2147483648) ∧ EvI X E_X4_tokenIs (20, [some (.inr (.inr (some (4, 0, 0)))), some (.inr (.inr (some (31, 7, 0)))), some (.inl (i + 1))], [], M) _)
            refine ih20 (i + 1) (by omega) (by omega) (by omega) (fun k a b => if z : k = i then (by rw [z, ← hT (s + i) (by omega) (by omega), ← h3]; exact h44) else a2 k a (by omega))
          · refine seg_ok 1 (?_ : EvI X E_X4_tokenIs (48, [some (.inr (.inr (some (4, 0, 0)))), some (.inr (.inr (some (31, 7, 0)))), some (.inl i)], [.inl 0], M) _)
            refine ev_rt (r := some (.inl 0)) rfl (⟨by decide, ?_⟩)
            exact ⟨rint (cif_f (fun z => h44 (by rw [h3, hT (s + i) (by omega) (by omega)]; exact z.2 i a1 (show i < (1 : Int) by omega)))).symm, rfl⟩
        · refine seg_ok 1 (?_ : EvI X E_X4_tokenIs (56, [some (.inr (.inr (some (4, 0, 0)))), some (.inr (.inr (some (31, 7, 0)))), some (.inl i)], [.inl 1], M) _)
          refine ev_rt (r := some (.inl 1)) rfl (⟨by decide, ?_⟩)
          exact ⟨rint (cif_t ⟨(by show (tkE T L s - s : Int) = 1; omega), fun k k0 k1 => a2 k k0 (Int.lt_of_lt_of_le k1 (show (1 : Int) ≤ i by omega))⟩).symm, rfl⟩
    refine L20 ((2 - 0) + 1 : Int).toNat 0 (by omega) (by omega) (by omega) (fun k a b => absurd b (by omega))
  · refine seg_ok 1 (?_ : EvI X E_X4_tokenIs (17, [some (.inr (.inr (some (4, 0, 0)))), some (.inr (.inr (some (31, 7, 0)))), none], [.inl 0], M) _)
    refine ev_rt (r := some (.inl 0)) rfl (⟨by decide, ?_⟩)
    exact ⟨rint (cif_f (fun z => by have z1 : (tkE T L s - s : Int) = 1 := z.1; omega)).symm, rfl⟩
theorem cz1 {P : Prop} (h : ¬ (cif P (1 : Int) 0 = 0)) : P := Classical.byContradiction fun n => h (cif_f n)
theorem cz0 {P : Prop} (h : cif P (1 : Int) 0 = 0) : ¬ P := fun n => absurd ((cif_t n).symm.trans h) (by decide)
noncomputable def ordC (T : Int → Int) (L s : Int) : Int := cif (isW T s (tkE T L s) ([104, 111, 108, 100] : List Nat)) 1 (cif (isW T s (tkE T L s) ([98, 117, 121] : List Nat)) 2 (cif (isW T s (tkE T L s) ([100, 114, 111, 112] : List Nat)) 3 (cif (isW T s (tkE T L s) ([98, 97, 99, 107] : List Nat)) 4 (cif (isW T s (tkE T L s) ([105, 110] : List Nat)) 5 (cif (isW T s (tkE T L s) ([117, 112] : List Nat)) 6 (cif (isW T s (tkE T L s) ([119, 97, 105, 116] : List Nat)) 7 0))))))
set_option maxRecDepth 1920 in
theorem d_orderOfToken {M : NM} {T : Int → Int} {L : Int} {s : Int} (hL : M 4 0 0 2 = L) (hL2 : 0 ≤ L ∧ L ≤ 120) (hT : ∀ k, 0 ≤ k → k < L → M 15 0 0 k = T k) (hs : 0 ≤ s ∧ s ≤ L) (h3 : M 4 0 0 3 = s) (h4 : M 4 0 0 4 = tkE T L s) : HT X z_X4_orderOfToken [.inr (.inr (some (4, 0, 0)))] M (fun rr MM => rr = some (.inl (ordC T L s - 1)) ∧ MM = M) := by
  refine ht_of (e := E_X4_orderOfToken) rfl (?_ : EvI X E_X4_orderOfToken (0, [some (.inr (.inr (some (4, 0, 0))))], [], M) _)
  refine seg_ok 2 (?_ : EvI X E_X4_orderOfToken (3, [some (.inr (.inr (some (4, 0, 0))))], [.inr (.inr (some (31, 0, 0))), .inr (.inr (some (4, 0, 0)))], M) _)
  refine ev_clp (v := .inl (bi (isW T s (tkE T L s) ([104, 111, 108, 100] : List Nat)))) (z := z_X4_tokenIs) (as := [.inr (.inr (some (4, 0, 0))), .inr (.inr (some (31, 0, 0)))]) (rest := []) rfl (d_tokenIs_0 hL hL2 hT hs h3 h4) (?_ : EvI X E_X4_orderOfToken (6, [some (.inr (.inr (some (4, 0, 0))))], [.inl (bi (isW T s (tkE T L s) ([104, 111, 108, 100] : List Nat)))], M) _)
  refine seg_ok 1 (?_ : EvI X E_X4_orderOfToken (if (bi (isW T s (tkE T L s) ([104, 111, 108, 100] : List Nat))) = 0 then 11 else 9, [some (.inr (.inr (some (4, 0, 0))))], [], M) _)
  refine ev_ifb (fun h6 => ?_) (fun h6 => ?_)
  · refine seg_ok 2 (?_ : EvI X E_X4_orderOfToken (14, [some (.inr (.inr (some (4, 0, 0))))], [.inr (.inr (some (31, 1, 0))), .inr (.inr (some (4, 0, 0)))], M) _)
    refine ev_clp (v := .inl (bi (isW T s (tkE T L s) ([98, 117, 121] : List Nat)))) (z := z_X4_tokenIs) (as := [.inr (.inr (some (4, 0, 0))), .inr (.inr (some (31, 1, 0)))]) (rest := []) rfl (d_tokenIs_1 hL hL2 hT hs h3 h4) (?_ : EvI X E_X4_orderOfToken (17, [some (.inr (.inr (some (4, 0, 0))))], [.inl (bi (isW T s (tkE T L s) ([98, 117, 121] : List Nat)))], M) _)
    refine seg_ok 1 (?_ : EvI X E_X4_orderOfToken (if (bi (isW T s (tkE T L s) ([98, 117, 121] : List Nat))) = 0 then 22 else 20, [some (.inr (.inr (some (4, 0, 0))))], [], M) _)
    refine ev_ifb (fun h17 => ?_) (fun h17 => ?_)
    · refine seg_ok 2 (?_ : EvI X E_X4_orderOfToken (25, [some (.inr (.inr (some (4, 0, 0))))], [.inr (.inr (some (31, 2, 0))), .inr (.inr (some (4, 0, 0)))], M) _)
      refine ev_clp (v := .inl (bi (isW T s (tkE T L s) ([100, 114, 111, 112] : List Nat)))) (z := z_X4_tokenIs) (as := [.inr (.inr (some (4, 0, 0))), .inr (.inr (some (31, 2, 0)))]) (rest := []) rfl (d_tokenIs_2 hL hL2 hT hs h3 h4) (?_ : EvI X E_X4_orderOfToken (28, [some (.inr (.inr (some (4, 0, 0))))], [.inl (bi (isW T s (tkE T L s) ([100, 114, 111, 112] : List Nat)))], M) _)
      refine seg_ok 1 (?_ : EvI X E_X4_orderOfToken (if (bi (isW T s (tkE T L s) ([100, 114, 111, 112] : List Nat))) = 0 then 33 else 31, [some (.inr (.inr (some (4, 0, 0))))], [], M) _)
      refine ev_ifb (fun h28 => ?_) (fun h28 => ?_)
      · refine seg_ok 2 (?_ : EvI X E_X4_orderOfToken (36, [some (.inr (.inr (some (4, 0, 0))))], [.inr (.inr (some (31, 3, 0))), .inr (.inr (some (4, 0, 0)))], M) _)
        refine ev_clp (v := .inl (bi (isW T s (tkE T L s) ([98, 97, 99, 107] : List Nat)))) (z := z_X4_tokenIs) (as := [.inr (.inr (some (4, 0, 0))), .inr (.inr (some (31, 3, 0)))]) (rest := []) rfl (d_tokenIs_3 hL hL2 hT hs h3 h4) (?_ : EvI X E_X4_orderOfToken (39, [some (.inr (.inr (some (4, 0, 0))))], [.inl (bi (isW T s (tkE T L s) ([98, 97, 99, 107] : List Nat)))], M) _)
        refine seg_ok 1 (?_ : EvI X E_X4_orderOfToken (if (bi (isW T s (tkE T L s) ([98, 97, 99, 107] : List Nat))) = 0 then 44 else 42, [some (.inr (.inr (some (4, 0, 0))))], [], M) _)
        refine ev_ifb (fun h39 => ?_) (fun h39 => ?_)
        · refine seg_ok 2 (?_ : EvI X E_X4_orderOfToken (47, [some (.inr (.inr (some (4, 0, 0))))], [.inr (.inr (some (31, 4, 0))), .inr (.inr (some (4, 0, 0)))], M) _)
          refine ev_clp (v := .inl (bi (isW T s (tkE T L s) ([105, 110] : List Nat)))) (z := z_X4_tokenIs) (as := [.inr (.inr (some (4, 0, 0))), .inr (.inr (some (31, 4, 0)))]) (rest := []) rfl (d_tokenIs_4 hL hL2 hT hs h3 h4) (?_ : EvI X E_X4_orderOfToken (50, [some (.inr (.inr (some (4, 0, 0))))], [.inl (bi (isW T s (tkE T L s) ([105, 110] : List Nat)))], M) _)
          refine seg_ok 1 (?_ : EvI X E_X4_orderOfToken (if (bi (isW T s (tkE T L s) ([105, 110] : List Nat))) = 0 then 55 else 53, [some (.inr (.inr (some (4, 0, 0))))], [], M) _)
          refine ev_ifb (fun h50 => ?_) (fun h50 => ?_)
          · refine seg_ok 2 (?_ : EvI X E_X4_orderOfToken (58, [some (.inr (.inr (some (4, 0, 0))))], [.inr (.inr (some (31, 5, 0))), .inr (.inr (some (4, 0, 0)))], M) _)
            refine ev_clp (v := .inl (bi (isW T s (tkE T L s) ([117, 112] : List Nat)))) (z := z_X4_tokenIs) (as := [.inr (.inr (some (4, 0, 0))), .inr (.inr (some (31, 5, 0)))]) (rest := []) rfl (d_tokenIs_5 hL hL2 hT hs h3 h4) (?_ : EvI X E_X4_orderOfToken (61, [some (.inr (.inr (some (4, 0, 0))))], [.inl (bi (isW T s (tkE T L s) ([117, 112] : List Nat)))], M) _)
            refine seg_ok 1 (?_ : EvI X E_X4_orderOfToken (if (bi (isW T s (tkE T L s) ([117, 112] : List Nat))) = 0 then 66 else 64, [some (.inr (.inr (some (4, 0, 0))))], [], M) _)
            refine ev_ifb (fun h61 => ?_) (fun h61 => ?_)
            · refine seg_ok 2 (?_ : EvI X E_X4_orderOfToken (69, [some (.inr (.inr (some (4, 0, 0))))], [.inr (.inr (some (31, 6, 0))), .inr (.inr (some (4, 0, 0)))], M) _)
              refine ev_clp (v := .inl (bi (isW T s (tkE T L s) ([119, 97, 105, 116] : List Nat)))) (z := z_X4_tokenIs) (as := [.inr (.inr (some (4, 0, 0))), .inr (.inr (some (31, 6, 0)))]) (rest := []) rfl (d_tokenIs_6 hL hL2 hT hs h3 h4) (?_ : EvI X E_X4_orderOfToken (72, [some (.inr (.inr (some (4, 0, 0))))], [.inl (bi (isW T s (tkE T L s) ([119, 97, 105, 116] : List Nat)))], M) _)
              refine seg_ok 1 (?_ : EvI X E_X4_orderOfToken (if (bi (isW T s (tkE T L s) ([119, 97, 105, 116] : List Nat))) = 0 then 80 else 75, [some (.inr (.inr (some (4, 0, 0))))], [], M) _)
              refine ev_ifb (fun h72 => ?_) (fun h72 => ?_)
              · refine seg_ok 1 (?_ : EvI X E_X4_orderOfToken (81, [some (.inr (.inr (some (4, 0, 0))))], [.inl (-1)], M) _)
                refine ev_rt (r := some (.inl (-1))) rfl (?_)
                exact ⟨rint (by rw [ordC, cif_f h6, cif_f h17, cif_f h28, cif_f h39, cif_f h50, cif_f h61, cif_f h72]; rfl), rfl⟩
              · refine seg_ok 2 (?_ : EvI X E_X4_orderOfToken (81, [some (.inr (.inr (some (4, 0, 0))))], [.inl 6], M) _)
                refine ev_rt (r := some (.inl 6)) rfl (?_)
                exact ⟨rint (by rw [ordC, cif_f h6, cif_f h17, cif_f h28, cif_f h39, cif_f h50, cif_f h61, cif_t h72]; rfl), rfl⟩
            · refine seg_ok 1 (?_ : EvI X E_X4_orderOfToken (65, [some (.inr (.inr (some (4, 0, 0))))], [.inl 5], M) _)
              refine ev_rt (r := some (.inl 5)) rfl (?_)
              exact ⟨rint (by rw [ordC, cif_f h6, cif_f h17, cif_f h28, cif_f h39, cif_f h50, cif_t h61]; rfl), rfl⟩
          · refine seg_ok 1 (?_ : EvI X E_X4_orderOfToken (54, [some (.inr (.inr (some (4, 0, 0))))], [.inl 4], M) _)
            refine ev_rt (r := some (.inl 4)) rfl (?_)
            exact ⟨rint (by rw [ordC, cif_f h6, cif_f h17, cif_f h28, cif_f h39, cif_t h50]; rfl), rfl⟩
        · refine seg_ok 1 (?_ : EvI X E_X4_orderOfToken (43, [some (.inr (.inr (some (4, 0, 0))))], [.inl 3], M) _)
          refine ev_rt (r := some (.inl 3)) rfl (?_)
          exact ⟨rint (by rw [ordC, cif_f h6, cif_f h17, cif_f h28, cif_t h39]; rfl), rfl⟩
      · refine seg_ok 1 (?_ : EvI X E_X4_orderOfToken (32, [some (.inr (.inr (some (4, 0, 0))))], [.inl 2], M) _)
        refine ev_rt (r := some (.inl 2)) rfl (?_)
        exact ⟨rint (by rw [ordC, cif_f h6, cif_f h17, cif_t h28]; rfl), rfl⟩
    · refine seg_ok 1 (?_ : EvI X E_X4_orderOfToken (21, [some (.inr (.inr (some (4, 0, 0))))], [.inl 1], M) _)
      refine ev_rt (r := some (.inl 1)) rfl (?_)
      exact ⟨rint (by rw [ordC, cif_f h6, cif_t h17]; rfl), rfl⟩
  · refine seg_ok 1 (?_ : EvI X E_X4_orderOfToken (10, [some (.inr (.inr (some (4, 0, 0))))], [.inl 0], M) _)
    refine ev_rt (r := some (.inl 0)) rfl (?_)
    exact ⟨rint (by rw [ordC, cif_t h6]; rfl), rfl⟩
noncomputable def opO (o : Int) (S : Sl) (a b c : Int) : Int × Sl := cif (o = 1) (opHold S a b c) (cif (o = 2) (opBuy S a) (cif (o = 3) (opDrop S a) (cif (o = 4) (opBack S a) (cif (o = 5) (opIn S a) (cif (o = 6) (opUp S a) (opPass S a))))))
end
