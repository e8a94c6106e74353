/-! 37: programs: tokens, both sides -/
section
variable {X : XI}
theorem kd_0 {c : Int} (h : ¬ (97 ≤ c ∧ c ≤ 122)) (k : ¬ (48 ≤ c ∧ c ≤ 57)) : kd c = 0 := by
  unfold kd
  rw [cif_f h, cif_f k]
theorem d_kindOf {M : NM} {c : Int} : HT X z_X4_kindOf [.inl c] M (fun rr MM => rr = some (.inl (kd c)) ∧ MM = M) := by
  refine ht_of (e := E_X4_kindOf) rfl (?_ : EvI X E_X4_kindOf (0, [some (.inl c)], [], M) _)
  refine seg_ok 3 (?_ : EvI X E_X4_kindOf (if c < 97 then 14 else 6, [some (.inl c)], [], M) _)
  refine ev_if (fun h3 => ?_) (fun h3 => ?_)
  · refine seg_ok 3 (?_ : EvI X E_X4_kindOf (if c < 48 then 30 else 20, [some (.inl c)], [], M) _)
    refine ev_if (fun h17 => ?_) (fun h17 => ?_)
    · refine seg_ok 1 (?_ : EvI X E_X4_kindOf (31, [some (.inl c)], [.inl 0], M) _)
      refine ev_rt (r := some (.inl 0)) rfl (?_)
      exact ⟨rint (kd_0 (by omega) (by omega)).symm, rfl⟩
    · refine seg_ok 3 (?_ : EvI X E_X4_kindOf (if 57 < c then 30 else 26, [some (.inl c)], [], M) _)
      refine ev_if (fun h23 => ?_) (fun h23 => ?_)
      · refine seg_ok 1 (?_ : EvI X E_X4_kindOf (31, [some (.inl c)], [.inl 0], M) _)
        refine ev_rt (r := some (.inl 0)) rfl (?_)
        exact ⟨rint (kd_0 (by omega) (by omega)).symm, rfl⟩
      · refine seg_ok 2 (?_ : EvI X E_X4_kindOf (31, [some (.inl c)], [.inl 2], M) _)
        refine ev_rt (r := some (.inl 2)) rfl (?_)
        exact ⟨rint (kd_2.mpr (by omega)).symm, rfl⟩
  · refine seg_ok 3 (?_ : EvI X E_X4_kindOf (if 122 < c then 14 else 12, [some (.inl c)], [], M) _)
    refine ev_if (fun h9 => ?_) (fun h9 => ?_)
    · refine seg_ok 3 (?_ : EvI X E_X4_kindOf (if c < 48 then 30 else 20, [some (.inl c)], [], M) _)
      refine ev_if (fun h17 => ?_) (fun h17 => ?_)
      · refine seg_ok 1 (?_ : EvI X E_X4_kindOf (31, [some (.inl c)], [.inl 0], M) _)
        refine ev_rt (r := some (.inl 0)) rfl (?_)
        exact ⟨rint (kd_0 (by omega) (by omega)).symm, rfl⟩
      · refine seg_ok 3 (?_ : EvI X E_X4_kindOf (if 57 < c then 30 else 26, [some (.inl c)], [], M) _)
        refine ev_if (fun h23 => ?_) (fun h23 => ?_)
        · refine seg_ok 1 (?_ : EvI X E_X4_kindOf (31, [some (.inl c)], [.inl 0], M) _)
          refine ev_rt (r := some (.inl 0)) rfl (?_)
          exact ⟨rint (kd_0 (by omega) (by omega)).symm, rfl⟩
        · refine seg_ok 2 (?_ : EvI X E_X4_kindOf (31, [some (.inl c)], [.inl 2], M) _)
          refine ev_rt (r := some (.inl 2)) rfl (?_)
          exact ⟨rint (kd_2.mpr (by omega)).symm, rfl⟩
    · refine seg_ok 1 (?_ : EvI X E_X4_kindOf (13, [some (.inl c)], [.inl 1], M) _)
      refine ev_rt (r := some (.inl 1)) rfl (?_)
      exact ⟨rint (kd_1.mpr (by omega)).symm, rfl⟩
set_option maxRecDepth 2670 in
theorem d_readToken {M : NM} {T : Int → Int} {L : Int} (hL : M 4 0 0 2 = L) (hL2 : 0 ≤ L ∧ L ≤ 120) (hT : ∀ k, 0 ≤ k → k < L → M 15 0 0 k = T k) (hp : 0 ≤ M 4 0 0 4 ∧ M 4 0 0 4 ≤ L) : HT X z_X4_readToken [.inr (.inr (some (4, 0, 0)))] M (fun rr MM => rr = none ∧ MM 4 0 0 3 = sk T L (M 4 0 0 4) ∧ MM 4 0 0 4 = tkE T L (sk T L (M 4 0 0 4)) ∧ (∀ K, K ≠ 4 → MM K = M K) ∧ ∀ s, s ≠ 3 → s ≠ 4 → MM 4 0 0 s = M 4 0 0 s) := by
  refine ht_of (e := E_X4_readToken) rfl (?_ : EvI X E_X4_readToken (0, [some (.inr (.inr (some (4, 0, 0)))), none], [], M) _)
  refine seg_ok 4 (?_ : EvI X E_X4_readToken (8, [some (.inr (.inr (some (4, 0, 0)))), none], [], (wri M 4 0 0 3 (M 4 0 0 4))) _)
  have L8 : ∀ (m8 : Nat) (M1 : NM) (q : Int), L - q < (m8 : Int) → (0 ≤ q) → (q ≤ L) → (M1 4 0 0 3 = q) → (∀ K, K ≠ 4 → M1 K = M K) → (∀ s, s ≠ 3 → s ≠ 4 → M1 4 0 0 s = M 4 0 0 s) → (sk T L (M 4 0 0 4) = sk T L q) → EvI X E_X4_readToken (8, [some (.inr (.inr (some (4, 0, 0)))), none], [], M1) (fun rr MM => rr = none ∧ MM 4 0 0 3 = sk T L (M 4 0 0 4) ∧ MM 4 0 0 4 = tkE T L (sk T L (M 4 0 0 4)) ∧ (∀ K, K ≠ 4 → MM K = M K) ∧ ∀ s, s ≠ 3 → s ≠ 4 → MM 4 0 0 s = M 4 0 0 s) := by
    intro m8
    induction m8 with
    | zero => intro  M1 q hm8 q1 q2 q3 q4 q5 q6; exact absurd hm8 (by omega)
    | succ m8 ih8 =>
      intro  M1 q hm8 q1 q2 q3 q4 q5 q6
      have eL : M1 4 0 0 2 = L := (q5 2 (by decide) (by decide)).trans hL
      have e15 : ∀ k, 0 ≤ k → k < L → M1 15 0 0 k = T k := fun k a b => by rw [q4 15 (by decide)]; exact hT k a b
      refine seg_ok 5 (?_ : EvI X E_X4_readToken (if (M1 4 0 0 3) < (M1 4 0 0 2) then 19 else 46, [some (.inr (.inr (some (4, 0, 0)))), none], [], M1) _)
      refine ev_if (fun h16 => ?_) (fun h16 => ?_)
      · refine seg_ok 7 (⟨by omega, ?_⟩ : ((0 : Int) ≤ (M1 4 0 0 3) ∧ (M1 4 0 0 3) < 120) ∧ EvI X E_X4_readToken (if (M1 15 0 0 (M1 4 0 0 3)) = 32 then 33 else 46, [some (.inr (.inr (some (4, 0, 0)))), none], [], M1) _)
        refine ev_if (fun h30 => ?_) (fun h30 => ?_)
        · refine seg_ok 7 (⟨by omega, ?_⟩ : ((-2147483648 : Int) ≤ ((M1 4 0 0 3) + 1) ∧ ((M1 4 0 0 3) + 1) < 2147483648) ∧ EvI X E_X4_readToken (8, [some (.inr (.inr (some (4, 0, 0)))), none], [], (wri M1 4 0 0 3 ((M1 4 0 0 3) + 1))) _)
          refine ih8 (wri M1 4 0 0 3 ((M1 4 0 0 3) + 1)) (q + 1) (by omega) (by omega) (by omega) (wri_eq.trans (by rw [q3])) (fun K h => (wri_K h).trans (q4 K h)) (fun s a b => (wri_nes a).trans (q5 s a b)) (q6.trans (sk_t (by omega) (by rw [← e15 q q1 (by omega), ← q3]; exact h30)))
        · have e4 : sk T L (M 4 0 0 4) = q := q6.trans (sk_f (fun z => h30 (by rw [q3, e15 q q1 z.1]; exact z.2)))
          refine seg_ok 6 (?_ : EvI X E_X4_readToken (58, [some (.inr (.inr (some (4, 0, 0)))), none], [.inl ((wri M1 4 0 0 4 (M1 4 0 0 3)) 4 0 0 3)], (wri M1 4 0 0 4 (M1 4 0 0 3))) _)
          rw [show ((wri M1 4 0 0 4 (M1 4 0 0 3)) 4 0 0 3) = (M1 4 0 0 3) from wri_nes (by decide)]
          refine seg_ok 2 (?_ : EvI X E_X4_readToken (62, [some (.inr (.inr (some (4, 0, 0)))), none], [.inl ((wri M1 4 0 0 4 (M1 4 0 0 3)) 4 0 0 2), .inl (M1 4 0 0 3)], (wri M1 4 0 0 4 (M1 4 0 0 3))) _)
          rw [show ((wri M1 4 0 0 4 (M1 4 0 0 3)) 4 0 0 2) = (M1 4 0 0 2) from wri_nes (by decide)]
          refine seg_ok 1 (?_ : EvI X E_X4_readToken (if (M1 4 0 0 3) < (M1 4 0 0 2) then 66 else 65, [some (.inr (.inr (some (4, 0, 0)))), none], [], (wri M1 4 0 0 4 (M1 4 0 0 3))) _)
          refine ev_if (fun h62 => ?_) (fun h62 => ?_)
          · have hs : q < L := by omega
            refine seg_ok 4 (?_ : EvI X E_X4_readToken (74, [some (.inr (.inr (some (4, 0, 0)))), none], [.inl ((wri M1 4 0 0 4 (M1 4 0 0 3)) 4 0 0 3), .inr (.inr (some (15, 0, 0)))], (wri M1 4 0 0 4 (M1 4 0 0 3))) _)
            rw [show ((wri M1 4 0 0 4 (M1 4 0 0 3)) 4 0 0 3) = (M1 4 0 0 3) from wri_nes (by decide)]
            refine seg_ok 1 (⟨by omega, ?_⟩ : ((0 : Int) ≤ (M1 4 0 0 3) ∧ (M1 4 0 0 3) < 120) ∧ EvI X E_X4_readToken (75, [some (.inr (.inr (some (4, 0, 0)))), none], [.inl (M1 15 0 0 (M1 4 0 0 3))], (wri M1 4 0 0 4 (M1 4 0 0 3))) _)
            refine ev_clp (v := .inl (kd (M1 15 0 0 (M1 4 0 0 3)))) (z := z_X4_kindOf) (as := [.inl (M1 15 0 0 (M1 4 0 0 3))]) (rest := []) rfl d_kindOf (?_ : EvI X E_X4_readToken (78, [some (.inr (.inr (some (4, 0, 0)))), none], [.inl (kd (M1 15 0 0 (M1 4 0 0 3)))], (wri M1 4 0 0 4 (M1 4 0 0 3))) _)
            refine seg_ok 4 (?_ : EvI X E_X4_readToken (84, [some (.inr (.inr (some (4, 0, 0)))), some (.inl (kd (M1 15 0 0 (M1 4 0 0 3))))], [.inl ((wri M1 4 0 0 4 (M1 4 0 0 3)) 4 0 0 4), .inr (.inr (some (4, 0, 0)))], (wri M1 4 0 0 4 (M1 4 0 0 3))) _)
            rw [show ((wri M1 4 0 0 4 (M1 4 0 0 3)) 4 0 0 4) = (M1 4 0 0 3) from wri_eq]
            refine seg_ok 3 (⟨by omega, ?_⟩ : ((-2147483648 : Int) ≤ ((M1 4 0 0 3) + 1) ∧ ((M1 4 0 0 3) + 1) < 2147483648) ∧ EvI X E_X4_readToken (89, [some (.inr (.inr (some (4, 0, 0)))), some (.inl (kd (M1 15 0 0 (M1 4 0 0 3))))], [], (wri (wri M1 4 0 0 4 (M1 4 0 0 3)) 4 0 0 4 ((M1 4 0 0 3) + 1))) _)
            have L89 : ∀ (m89 : Nat) (M2 : NM) (u : Int), L - u < (m89 : Int) → (q + 1 ≤ u) → (u ≤ L) → (M2 4 0 0 3 = q) → (M2 4 0 0 4 = u) → (∀ K, K ≠ 4 → M2 K = M K) → (∀ s, s ≠ 3 → s ≠ 4 → M2 4 0 0 s = M 4 0 0 s) → (kd (M1 15 0 0 (M1 4 0 0 3)) ≠ 0 → rn T L (kd (T q)) (q + 1) = rn T L (kd (T q)) u) → (kd (M1 15 0 0 (M1 4 0 0 3)) = 0 → u = q + 1) → EvI X E_X4_readToken (89, [some (.inr (.inr (some (4, 0, 0)))), some (.inl (kd (M1 15 0 0 (M1 4 0 0 3))))], [], M2) (fun rr MM => rr = none ∧ MM 4 0 0 3 = sk T L (M 4 0 0 4) ∧ MM 4 0 0 4 = tkE T L (sk T L (M 4 0 0 4)) ∧ (∀ K, K ≠ 4 → MM K = M K) ∧ ∀ s, s ≠ 3 → s ≠ 4 → MM 4 0 0 s = M 4 0 0 s) := by
              intro m89
              induction m89 with
              | zero => intro  M2 u hm89 p1 p2 p3 p5 p6 p7 p8 p9; exact absurd hm89 (by omega)
              | succ m89 ih89 =>
                intro  M2 u hm89 p1 p2 p3 p5 p6 p7 p8 p9
                have eL2 : M2 4 0 0 2 = L := (p7 2 (by decide) (by decide)).trans hL
                have hq5 : u < L → M2 15 0 0 (M2 4 0 0 4) = T u := fun z => by rw [p5, p6 15 (by decide)]; exact hT u (by omega) z
                have hkq : kd (M1 15 0 0 (M1 4 0 0 3)) = kd (T q) := congrArg kd (by rw [q3]; exact e15 q q1 hs)
                refine seg_ok 2 (?_ : EvI X E_X4_readToken (if (kd (M1 15 0 0 (M1 4 0 0 3))) = 0 then 133 else 93, [some (.inr (.inr (some (4, 0, 0)))), some (.inl (kd (M1 15 0 0 (M1 4 0 0 3))))], [], M2) _)
                refine ev_if (fun h90 => ?_) (fun h90 => ?_)
                · refine ev_rt (r := none) rfl (?_)
                  exact ⟨rfl, p3.trans e4.symm, p5.trans (by rw [e4, tkE, cif_t hs, cif_t (show kd (T q) = 0 by rw [← hkq]; exact h90)]; exact p9 h90), p6, p7⟩
                · refine seg_ok 5 (?_ : EvI X E_X4_readToken (if (M2 4 0 0 4) < (M2 4 0 0 2) then 104 else 133, [some (.inr (.inr (some (4, 0, 0)))), some (.inl (kd (M1 15 0 0 (M1 4 0 0 3))))], [], M2) _)
                  refine ev_if (fun h101 => ?_) (fun h101 => ?_)
                  · refine seg_ok 5 (⟨by omega, ?_⟩ : ((0 : Int) ≤ (M2 4 0 0 4) ∧ (M2 4 0 0 4) < 120) ∧ EvI X E_X4_readToken (113, [some (.inr (.inr (some (4, 0, 0)))), some (.inl (kd (M1 15 0 0 (M1 4 0 0 3))))], [.inl (M2 15 0 0 (M2 4 0 0 4))], M2) _)
                    refine ev_clp (v := .inl (kd (M2 15 0 0 (M2 4 0 0 4)))) (z := z_X4_kindOf) (as := [.inl (M2 15 0 0 (M2 4 0 0 4))]) (rest := []) rfl d_kindOf (?_ : EvI X E_X4_readToken (116, [some (.inr (.inr (some (4, 0, 0)))), some (.inl (kd (M1 15 0 0 (M1 4 0 0 3))))], [.inl (kd (M2 15 0 0 (M2 4 0 0 4)))], M2) _)
                    refine seg_ok 2 (?_ : EvI X E_X4_readToken (if (kd (M2 15 0 0 (M2 4 0 0 4))) = (kd (M1 15 0 0 (M1 4 0 0 3))) then 120 else 133, [some (.inr (.inr (some (4, 0, 0)))), some (.inl (kd (M1 15 0 0 (M1 4 0 0 3))))], [], M2) _)
                    refine ev_if (fun h117 => ?_) (fun h117 => ?_)
                    · refine seg_ok 7 (⟨by omega, ?_⟩ : ((-2147483648 : Int) ≤ ((M2 4 0 0 4) + 1) ∧ ((M2 4 0 0 4) + 1) < 2147483648) ∧ EvI X E_X4_readToken (89, [some (.inr (.inr (some (4, 0, 0)))), some (.inl (kd (M1 15 0 0 (M1 4 0 0 3))))], [], (wri M2 4 0 0 4 ((M2 4 0 0 4) + 1))) _)
                      refine ih89 (wri M2 4 0 0 4 ((M2 4 0 0 4) + 1)) (u + 1) (by omega) (by omega) (by omega) ((wri_nes (by decide)).trans p3) (wri_eq.trans (by rw [p5])) (fun K h => (wri_K h).trans (p6 K h)) (fun s a b => (wri_nes b).trans (p7 s a b)) (fun z => (p8 z).trans (rn_t (by omega) (by rw [← hq5 (by omega), ← hkq]; exact h117))) (fun z => absurd z h90)
                    · refine ev_rt (r := none) rfl (?_)
                      exact ⟨rfl, p3.trans e4.symm, p5.trans (by rw [e4, tkE, cif_t hs, cif_f (show ¬ kd (T q) = 0 by rw [← hkq]; exact h90), p8 h90]; exact (rn_f (by intro z; exact h117 ((congrArg kd (hq5 (by omega))).trans (z.2.trans hkq.symm)))).symm), p6, p7⟩
                  · refine ev_rt (r := none) rfl (?_)
                    exact ⟨rfl, p3.trans e4.symm, p5.trans (by rw [e4, tkE, cif_t hs, cif_f (show ¬ kd (T q) = 0 by rw [← hkq]; exact h90), p8 h90]; exact (rn_f (by omega)).symm), p6, p7⟩
            refine L89 ((L - (q + 1)) + 1 : Int).toNat (wri (wri M1 4 0 0 4 (M1 4 0 0 3)) 4 0 0 4 ((M1 4 0 0 3) + 1)) (q + 1) (by omega) (by omega) (by omega) ((wri_nes (by decide)).trans ((wri_nes (by decide)).trans q3)) (wri_eq.trans (by rw [q3])) (fun K h => (wri_K h).trans ((wri_K h).trans (q4 K h))) (fun s a b => (wri_nes b).trans ((wri_nes b).trans (q5 s a b))) (fun _ => rfl) (fun _ => rfl)
          · exact absurd h62 (by omega)
      · have e4 : sk T L (M 4 0 0 4) = q := q6.trans (sk_f (by omega))
        refine seg_ok 6 (?_ : EvI X E_X4_readToken (58, [some (.inr (.inr (some (4, 0, 0)))), none], [.inl ((wri M1 4 0 0 4 (M1 4 0 0 3)) 4 0 0 3)], (wri M1 4 0 0 4 (M1 4 0 0 3))) _)
        rw [show ((wri M1 4 0 0 4 (M1 4 0 0 3)) 4 0 0 3) = (M1 4 0 0 3) from wri_nes (by decide)]
        refine seg_ok 2 (?_ : EvI X E_X4_readToken (62, [some (.inr (.inr (some (4, 0, 0)))), none], [.inl ((wri M1 4 0 0 4 (M1 4 0 0 3)) 4 0 0 2), .inl (M1 4 0 0 3)], (wri M1 4 0 0 4 (M1 4 0 0 3))) _)
        rw [show ((wri M1 4 0 0 4 (M1 4 0 0 3)) 4 0 0 2) = (M1 4 0 0 2) from wri_nes (by decide)]
        refine seg_ok 1 (?_ : EvI X E_X4_readToken (if (M1 4 0 0 3) < (M1 4 0 0 2) then 66 else 65, [some (.inr (.inr (some (4, 0, 0)))), none], [], (wri M1 4 0 0 4 (M1 4 0 0 3))) _)
        refine ev_if (fun h62 => ?_) (fun h62 => ?_)
        · exact absurd h62 (by omega)
        · refine ev_rt (r := none) rfl (?_)
          show _ ∧ (wri M1 4 0 0 4 (M1 4 0 0 3)) 4 0 0 3 = _ ∧ (wri M1 4 0 0 4 (M1 4 0 0 3)) 4 0 0 4 = _ ∧ _
          exact ⟨rfl, (wri_nes (by decide)).trans (q3.trans e4.symm), wri_eq.trans (by rw [e4, tkE, cif_f (by omega)]; exact q3), fun K h => (wri_K h).trans (q4 K h), fun s a b => (wri_nes b).trans (q5 s a b)⟩
  refine L8 ((L - M 4 0 0 4) + 1 : Int).toNat (wri M 4 0 0 3 (M 4 0 0 4)) (M 4 0 0 4) (by omega) (by omega) (by omega) wri_eq (fun K h => wri_K h) (fun s a _ => wri_nes a) rfl
end
