/-! 47: the reference: tokens -/
section
variable {X : XI}
theorem c_byteAt {M : NM} {T : Int → Int} {L : Int} (hL : M 8 0 0 6 = L) (hL2 : 0 ≤ L ∧ L ≤ 120) (hT : ∀ k, 0 ≤ k → k < L → M 20 0 0 k = T k) {k : Int} (hk : 0 ≤ k ∧ k ≤ L) : HT X z_X8_byteAt [.inr (.inr (some (8, 0, 0))), .inl k] M (fun rr MM => rr = some (.inl (cif (k < L) (T k) 0)) ∧ MM = M) := by
  refine ht_of (e := E_X8_byteAt) rfl (?_ : EvI X E_X8_byteAt (0, [some (.inr (.inr (some (8, 0, 0)))), some (.inl k)], [], M) _)
  refine seg_ok 4 (?_ : EvI X E_X8_byteAt (if k < (M 8 0 0 6) then 8 else 17, [some (.inr (.inr (some (8, 0, 0)))), some (.inl k)], [], M) _)
  refine ev_if (fun h5 => ?_) (fun h5 => ?_)
  · refine seg_ok 5 (⟨by omega, ?_⟩ : ((0 : Int) ≤ k ∧ k < 120) ∧ EvI X E_X8_byteAt (18, [some (.inr (.inr (some (8, 0, 0)))), some (.inl k)], [.inl (M 20 0 0 k)], M) _)
    refine ev_rt (r := some (.inl (M 20 0 0 k))) rfl (?_)
    exact ⟨rint ((hT k hk.1 (by omega)).trans (cif_t (by omega)).symm), rfl⟩
  · refine seg_ok 1 (?_ : EvI X E_X8_byteAt (18, [some (.inr (.inr (some (8, 0, 0)))), some (.inl k)], [.inl 0], M) _)
    refine ev_rt (r := some (.inl 0)) rfl (?_)
    exact ⟨rint (cif_f (by omega)).symm, rfl⟩
theorem c_isLetter {M : NM} {T : Int → Int} {L : Int} (hL : M 8 0 0 6 = L) (hL2 : 0 ≤ L ∧ L ≤ 120) (hT : ∀ k, 0 ≤ k → k < L → M 20 0 0 k = T k) {k : Int} (hk : 0 ≤ k ∧ k ≤ L) : HT X z_X8_isLetter [.inr (.inr (some (8, 0, 0))), .inl k] M (fun rr MM => rr = some (.inl (bi (k < L ∧ kd (T k) = 1))) ∧ MM = M) := by
  refine ht_of (e := E_X8_isLetter) rfl (?_ : EvI X E_X8_isLetter (0, [some (.inr (.inr (some (8, 0, 0)))), some (.inl k)], [], M) _)
  refine seg_ok 2 (?_ : EvI X E_X8_isLetter (2, [some (.inr (.inr (some (8, 0, 0)))), some (.inl k)], [.inl k, .inr (.inr (some (8, 0, 0)))], M) _)
  refine ev_clp (v := .inl (cif (k < L) (T k) 0)) (z := z_X8_byteAt) (as := [.inr (.inr (some (8, 0, 0))), .inl k]) (rest := []) rfl (c_byteAt hL hL2 hT (by omega)) (?_ : EvI X E_X8_isLetter (5, [some (.inr (.inr (some (8, 0, 0)))), some (.inl k)], [.inl (cif (k < L) (T k) 0)], M) _)
  refine seg_ok 2 (?_ : EvI X E_X8_isLetter (9, [some (.inr (.inr (some (8, 0, 0)))), some (.inl k)], [.inl 122, .inl 97, .inl (cif (k < L) (T k) 0)], M) _)
  refine ev_clp (v := .inl (bi (97 ≤ (cif (k < L) (T k) 0) ∧ (cif (k < L) (T k) 0) ≤ 122))) (z := z_X8_in) (as := [.inl (cif (k < L) (T k) 0), .inl 97, .inl 122]) (rest := []) rfl c_in (?_ : EvI X E_X8_isLetter (12, [some (.inr (.inr (some (8, 0, 0)))), some (.inl k)], [.inl (bi (97 ≤ (cif (k < L) (T k) 0) ∧ (cif (k < L) (T k) 0) ≤ 122))], M) _)
  refine ev_rt (r := some (.inl (bi (97 ≤ (cif (k < L) (T k) 0) ∧ (cif (k < L) (T k) 0) ≤ 122)))) rfl (⟨bi_01 _, ?_⟩)
  exact ⟨rint (bi_iff by_k), rfl⟩
theorem c_isFigure {M : NM} {T : Int → Int} {L : Int} (hL : M 8 0 0 6 = L) (hL2 : 0 ≤ L ∧ L ≤ 120) (hT : ∀ k, 0 ≤ k → k < L → M 20 0 0 k = T k) {k : Int} (hk : 0 ≤ k ∧ k ≤ L) : HT X z_X8_isFigure [.inr (.inr (some (8, 0, 0))), .inl k] M (fun rr MM => rr = some (.inl (bi (k < L ∧ kd (T k) = 2))) ∧ MM = M) := by
  refine ht_of (e := E_X8_isFigure) rfl (?_ : EvI X E_X8_isFigure (0, [some (.inr (.inr (some (8, 0, 0)))), some (.inl k)], [], M) _)
  refine seg_ok 2 (?_ : EvI X E_X8_isFigure (2, [some (.inr (.inr (some (8, 0, 0)))), some (.inl k)], [.inl k, .inr (.inr (some (8, 0, 0)))], M) _)
  refine ev_clp (v := .inl (cif (k < L) (T k) 0)) (z := z_X8_byteAt) (as := [.inr (.inr (some (8, 0, 0))), .inl k]) (rest := []) rfl (c_byteAt hL hL2 hT (by omega)) (?_ : EvI X E_X8_isFigure (5, [some (.inr (.inr (some (8, 0, 0)))), some (.inl k)], [.inl (cif (k < L) (T k) 0)], M) _)
  refine seg_ok 2 (?_ : EvI X E_X8_isFigure (9, [some (.inr (.inr (some (8, 0, 0)))), some (.inl k)], [.inl 57, .inl 48, .inl (cif (k < L) (T k) 0)], M) _)
  refine ev_clp (v := .inl (bi (48 ≤ (cif (k < L) (T k) 0) ∧ (cif (k < L) (T k) 0) ≤ 57))) (z := z_X8_in) (as := [.inl (cif (k < L) (T k) 0), .inl 48, .inl 57]) (rest := []) rfl c_in (?_ : EvI X E_X8_isFigure (12, [some (.inr (.inr (some (8, 0, 0)))), some (.inl k)], [.inl (bi (48 ≤ (cif (k < L) (T k) 0) ∧ (cif (k < L) (T k) 0) ≤ 57))], M) _)
  refine ev_rt (r := some (.inl (bi (48 ≤ (cif (k < L) (T k) 0) ∧ (cif (k < L) (T k) 0) ≤ 57)))) rfl (⟨bi_01 _, ?_⟩)
  exact ⟨rint (bi_iff by_f), rfl⟩
set_option maxRecDepth 3090 in
theorem c_next {M : NM} {T : Int → Int} {L : Int} (hL : M 8 0 0 6 = L) (hL2 : 0 ≤ L ∧ L ≤ 120) (hT : ∀ k, 0 ≤ k → k < L → M 20 0 0 k = T k) (hp : 0 ≤ M 8 0 0 9 ∧ M 8 0 0 9 ≤ L) : HT X z_X8_next [.inr (.inr (some (8, 0, 0)))] M (fun rr MM => rr = none ∧ MM 8 0 0 8 = sk T L (M 8 0 0 9) ∧ MM 8 0 0 9 = tkE T L (sk T L (M 8 0 0 9)) ∧ MM 8 0 0 10 = srt T L (sk T L (M 8 0 0 9)) ∧ (∀ K, K ≠ 8 → MM K = M K) ∧ ∀ s, s ≠ 8 → s ≠ 9 → s ≠ 10 → MM 8 0 0 s = M 8 0 0 s) := by
  refine ht_of (e := E_X8_next) rfl (?_ : EvI X E_X8_next (0, [some (.inr (.inr (some (8, 0, 0))))], [], M) _)
  refine seg_ok 4 (?_ : EvI X E_X8_next (8, [some (.inr (.inr (some (8, 0, 0))))], [], (wri M 8 0 0 8 (M 8 0 0 9))) _)
  have L8 : ∀ (m8 : Nat) (M1 : NM) (q : Int), L - q < (m8 : Int) → (0 ≤ q) → (q ≤ L) → (M1 8 0 0 8 = q) → (∀ K, K ≠ 8 → M1 K = M K) → (∀ s, s ≠ 8 → s ≠ 9 → s ≠ 10 → M1 8 0 0 s = M 8 0 0 s) → (sk T L (M 8 0 0 9) = sk T L q) → EvI X E_X8_next (8, [some (.inr (.inr (some (8, 0, 0))))], [], M1) (fun rr MM => rr = none ∧ MM 8 0 0 8 = sk T L (M 8 0 0 9) ∧ MM 8 0 0 9 = tkE T L (sk T L (M 8 0 0 9)) ∧ MM 8 0 0 10 = srt T L (sk T L (M 8 0 0 9)) ∧ (∀ K, K ≠ 8 → MM K = M K) ∧ ∀ s, s ≠ 8 → s ≠ 9 → s ≠ 10 → MM 8 0 0 s = M 8 0 0 s) := by
    intro m8
    induction m8 with
    | zero => intro  M1 q hm8 q1 q2 q3 q4 q5 q6; exact absurd hm8 (by omega)
    | succ m8 ih8 =>
      intro  M1 q hm8 q1 q2 q3 q4 q5 q6
      have eL1 : M1 8 0 0 6 = L := (q5 6 (by decide) (by decide) (by decide)).trans hL
      have eT1 : ∀ k, 0 ≤ k → k < L → M1 20 0 0 k = T k := fun k a b => by rw [q4 20 (by decide)]; exact hT k a b
      refine seg_ok 3 (?_ : EvI X E_X8_next (13, [some (.inr (.inr (some (8, 0, 0))))], [.inl (M1 8 0 0 8), .inr (.inr (some (8, 0, 0)))], M1) _)
      refine ev_clp (v := .inl (cif ((M1 8 0 0 8) < L) (T (M1 8 0 0 8)) 0)) (z := z_X8_byteAt) (as := [.inr (.inr (some (8, 0, 0))), .inl (M1 8 0 0 8)]) (rest := []) rfl (c_byteAt eL1 hL2 eT1 (by omega)) (?_ : EvI X E_X8_next (16, [some (.inr (.inr (some (8, 0, 0))))], [.inl (cif ((M1 8 0 0 8) < L) (T (M1 8 0 0 8)) 0)], M1) _)
      refine seg_ok 2 (?_ : EvI X E_X8_next (if (cif ((M1 8 0 0 8) < L) (T (M1 8 0 0 8)) 0) = 32 then 21 else 34, [some (.inr (.inr (some (8, 0, 0))))], [], M1) _)
      refine ev_if (fun h18 => ?_) (fun h18 => ?_)
      · rw [q3] at h18
        replace h18 := by_s.mp h18
        refine seg_ok 7 (⟨by omega, ?_⟩ : ((-2147483648 : Int) ≤ ((M1 8 0 0 8) + 1) ∧ ((M1 8 0 0 8) + 1) < 2147483648) ∧ EvI X E_X8_next (8, [some (.inr (.inr (some (8, 0, 0))))], [], (wri M1 8 0 0 8 ((M1 8 0 0 8) + 1))) _)
        refine ih8 (wri M1 8 0 0 8 ((M1 8 0 0 8) + 1)) (q + 1) (by omega) (by omega) (by omega) (wri_eq.trans (by rw [q3])) (fun K h => (wri_K h).trans (q4 K h)) (fun s a b c => (wri_nes a).trans (q5 s a b c)) (q6.trans (sk_t h18.1 h18.2))
      · rw [q3] at h18
        have e4 : sk T L (M 8 0 0 9) = q := q6.trans (sk_f (fun z => h18 (by_s.mpr z)))
        refine seg_ok 7 (?_ : EvI X E_X8_next (47, [some (.inr (.inr (some (8, 0, 0))))], [.inl ((wri M1 8 0 0 9 (M1 8 0 0 8)) 8 0 0 8), .inr (.inr (some (8, 0, 0)))], (wri M1 8 0 0 9 (M1 8 0 0 8))) _)
        rw [show ((wri M1 8 0 0 9 (M1 8 0 0 8)) 8 0 0 8) = (M1 8 0 0 8) from wri_nes (by decide)]
        refine seg_ok 2 (?_ : EvI X E_X8_next (51, [some (.inr (.inr (some (8, 0, 0))))], [.inl ((wri M1 8 0 0 9 (M1 8 0 0 8)) 8 0 0 6), .inl (M1 8 0 0 8), .inr (.inr (some (8, 0, 0)))], (wri M1 8 0 0 9 (M1 8 0 0 8))) _)
        rw [show ((wri M1 8 0 0 9 (M1 8 0 0 8)) 8 0 0 6) = (M1 8 0 0 6) from wri_nes (by decide)]
        refine seg_ok 1 (?_ : EvI X E_X8_next (if (M1 8 0 0 8) = (M1 8 0 0 6) then 54 else 58, [some (.inr (.inr (some (8, 0, 0))))], [.inr (.inr (some (8, 0, 0)))], (wri M1 8 0 0 9 (M1 8 0 0 8))) _)
        refine ev_if (fun h51 => ?_) (fun h51 => ?_)
        · have hq0 : q = L := by omega
          refine seg_ok 6 (?_ : EvI X E_X8_next (97, [some (.inr (.inr (some (8, 0, 0))))], [.inl ((wri (wri M1 8 0 0 9 (M1 8 0 0 8)) 8 0 0 10 0) 8 0 0 9), .inr (.inr (some (8, 0, 0)))], (wri (wri M1 8 0 0 9 (M1 8 0 0 8)) 8 0 0 10 0)) _)
          rw [show ((wri (wri M1 8 0 0 9 (M1 8 0 0 8)) 8 0 0 10 0) 8 0 0 9) = (M1 8 0 0 8) from (wri_nes (by decide)).trans (wri_eq)]
          refine seg_ok 2 (?_ : EvI X E_X8_next (101, [some (.inr (.inr (some (8, 0, 0))))], [.inl ((wri (wri M1 8 0 0 9 (M1 8 0 0 8)) 8 0 0 10 0) 8 0 0 10), .inl (M1 8 0 0 8), .inr (.inr (some (8, 0, 0)))], (wri (wri M1 8 0 0 9 (M1 8 0 0 8)) 8 0 0 10 0)) _)
          rw [show ((wri (wri M1 8 0 0 9 (M1 8 0 0 8)) 8 0 0 10 0) 8 0 0 10) = 0 from wri_eq]
          refine seg_ok 5 (⟨by omega, ?_⟩ : ((-2147483648 : Int) ≤ ((M1 8 0 0 8) + 0) ∧ ((M1 8 0 0 8) + 0) < 2147483648) ∧ EvI X E_X8_next (114, [some (.inr (.inr (some (8, 0, 0))))], [], (wri (wri (wri M1 8 0 0 9 (M1 8 0 0 8)) 8 0 0 10 0) 8 0 0 9 ((M1 8 0 0 8) + 0))) _)
          have L114 : ∀ (m114 : Nat) (M2 : NM) (u : Int) (z : Int), L - u < (m114 : Int) → (q ≤ u) → (u ≤ L) → (M2 8 0 0 8 = q) → (M2 8 0 0 10 = z) → (M2 8 0 0 9 = u) → (∀ K, K ≠ 8 → M2 K = M K) → (∀ s, s ≠ 8 → s ≠ 9 → s ≠ 10 → M2 8 0 0 s = M 8 0 0 s) → (srt T L q = z) → (tkE T L q = tkU T L z u) → EvI X E_X8_next (114, [some (.inr (.inr (some (8, 0, 0))))], [], M2) (fun rr MM => rr = none ∧ MM 8 0 0 8 = sk T L (M 8 0 0 9) ∧ MM 8 0 0 9 = tkE T L (sk T L (M 8 0 0 9)) ∧ MM 8 0 0 10 = srt T L (sk T L (M 8 0 0 9)) ∧ (∀ K, K ≠ 8 → MM K = M K) ∧ ∀ s, s ≠ 8 → s ≠ 9 → s ≠ 10 → MM 8 0 0 s = M 8 0 0 s) := by
            intro m114
            induction m114 with
            | zero => intro  M2 u z hm114 p1 p2 p3 p4 p5 p6 p7 p8 p9; exact absurd hm114 (by omega)
            | succ m114 ih114 =>
              intro  M2 u z hm114 p1 p2 p3 p4 p5 p6 p7 p8 p9
              have eL2 : M2 8 0 0 6 = L := (p7 6 (by decide) (by decide) (by decide)).trans hL
              have eT2 : ∀ k, 0 ≤ k → k < L → M2 20 0 0 k = T k := fun k a b => by rw [p6 20 (by decide)]; exact hT k a b
              refine seg_ok 4 (?_ : EvI X E_X8_next (if (M2 8 0 0 10) = 1 then 122 else 133, [some (.inr (.inr (some (8, 0, 0))))], [], M2) _)
              refine ev_if (fun h119 => ?_) (fun h119 => ?_)
              · refine seg_ok 3 (?_ : EvI X E_X8_next (127, [some (.inr (.inr (some (8, 0, 0))))], [.inl (M2 8 0 0 9), .inr (.inr (some (8, 0, 0)))], M2) _)
                refine ev_clp (v := .inl (bi ((M2 8 0 0 9) < L ∧ kd (T (M2 8 0 0 9)) = 1))) (z := z_X8_isLetter) (as := [.inr (.inr (some (8, 0, 0))), .inl (M2 8 0 0 9)]) (rest := []) rfl (c_isLetter eL2 hL2 eT2 (by omega)) (?_ : EvI X E_X8_next (130, [some (.inr (.inr (some (8, 0, 0))))], [.inl (bi ((M2 8 0 0 9) < L ∧ kd (T (M2 8 0 0 9)) = 1))], M2) _)
                refine seg_ok 1 (?_ : EvI X E_X8_next (if (bi ((M2 8 0 0 9) < L ∧ kd (T (M2 8 0 0 9)) = 1)) = 0 then 133 else 152, [some (.inr (.inr (some (8, 0, 0))))], [], M2) _)
                refine ev_ifb (fun h130 => ?_) (fun h130 => ?_)
                · rw [p5] at h130
                  refine seg_ok 4 (?_ : EvI X E_X8_next (if (M2 8 0 0 10) = 2 then 141 else 165, [some (.inr (.inr (some (8, 0, 0))))], [], M2) _)
                  refine ev_if (fun h138 => ?_) (fun h138 => ?_)
                  · omega
                  · refine ev_rt (r := none) rfl (?_)
                    have eu : tkE T L q = u := p9.trans (by rw [tkU_1 (show z = 1 by omega)]; exact rn_f h130)
                    exact ⟨rfl, p3.trans e4.symm, p5.trans (by rw [e4, eu]), p4.trans (by rw [e4, p8]), p6, p7⟩
                · rw [p5] at h130
                  refine seg_ok 7 (⟨by omega, ?_⟩ : ((-2147483648 : Int) ≤ ((M2 8 0 0 9) + 1) ∧ ((M2 8 0 0 9) + 1) < 2147483648) ∧ EvI X E_X8_next (114, [some (.inr (.inr (some (8, 0, 0))))], [], (wri M2 8 0 0 9 ((M2 8 0 0 9) + 1))) _)
                  refine ih114 (wri M2 8 0 0 9 ((M2 8 0 0 9) + 1)) (u + 1) z (by omega) (by omega) (by have := h130.1; omega) ((wri_nes (by decide)).trans p3) ((wri_nes (by decide)).trans p4) (wri_eq.trans (by rw [p5])) (fun K h => (wri_K h).trans (p6 K h)) (fun s a b c => (wri_nes b).trans (p7 s a b c)) p8 (p9.trans (by rw [tkU_1 (show z = 1 by omega), tkU_1 (show z = 1 by omega)]; exact rn_t h130.1 h130.2))
              · refine seg_ok 4 (?_ : EvI X E_X8_next (if (M2 8 0 0 10) = 2 then 141 else 165, [some (.inr (.inr (some (8, 0, 0))))], [], M2) _)
                refine ev_if (fun h138 => ?_) (fun h138 => ?_)
                · refine seg_ok 3 (?_ : EvI X E_X8_next (146, [some (.inr (.inr (some (8, 0, 0))))], [.inl (M2 8 0 0 9), .inr (.inr (some (8, 0, 0)))], M2) _)
                  refine ev_clp (v := .inl (bi ((M2 8 0 0 9) < L ∧ kd (T (M2 8 0 0 9)) = 2))) (z := z_X8_isFigure) (as := [.inr (.inr (some (8, 0, 0))), .inl (M2 8 0 0 9)]) (rest := []) rfl (c_isFigure eL2 hL2 eT2 (by omega)) (?_ : EvI X E_X8_next (149, [some (.inr (.inr (some (8, 0, 0))))], [.inl (bi ((M2 8 0 0 9) < L ∧ kd (T (M2 8 0 0 9)) = 2))], M2) _)
                  refine seg_ok 1 (?_ : EvI X E_X8_next (if (bi ((M2 8 0 0 9) < L ∧ kd (T (M2 8 0 0 9)) = 2)) = 0 then 165 else 152, [some (.inr (.inr (some (8, 0, 0))))], [], M2) _)
                  refine ev_ifb (fun h149 => ?_) (fun h149 => ?_)
                  · rw [p5] at h149
                    refine ev_rt (r := none) rfl (?_)
                    have eu : tkE T L q = u := p9.trans (by rw [tkU_2 (show z = 2 by omega)]; exact rn_f h149)
                    exact ⟨rfl, p3.trans e4.symm, p5.trans (by rw [e4, eu]), p4.trans (by rw [e4, p8]), p6, p7⟩
                  · rw [p5] at h149
                    refine seg_ok 7 (⟨by omega, ?_⟩ : ((-2147483648 : Int) ≤ ((M2 8 0 0 9) + 1) ∧ ((M2 8 0 0 9) + 1) < 2147483648) ∧ EvI X E_X8_next (114, [some (.inr (.inr (some (8, 0, 0))))], [], (wri M2 8 0 0 9 ((M2 8 0 0 9) + 1))) _)
                    refine ih114 (wri M2 8 0 0 9 ((M2 8 0 0 9) + 1)) (u + 1) z (by omega) (by omega) (by have := h149.1; omega) ((wri_nes (by decide)).trans p3) ((wri_nes (by decide)).trans p4) (wri_eq.trans (by rw [p5])) (fun K h => (wri_K h).trans (p6 K h)) (fun s a b c => (wri_nes b).trans (p7 s a b c)) p8 (p9.trans (by rw [tkU_2 (show z = 2 by omega), tkU_2 (show z = 2 by omega)]; exact rn_t h149.1 h149.2))
                · refine ev_rt (r := none) rfl (?_)
                  have eu : tkE T L q = u := p9.trans (by exact tkU_o (by omega) (by omega))
                  exact ⟨rfl, p3.trans e4.symm, p5.trans (by rw [e4, eu]), p4.trans (by rw [e4, p8]), p6, p7⟩
          refine L114 ((L - q) + 1 : Int).toNat (wri (wri (wri M1 8 0 0 9 (M1 8 0 0 8)) 8 0 0 10 0) 8 0 0 9 ((M1 8 0 0 8) + 0)) (M1 8 0 0 8 + 0) 0 (by omega) (by omega) (by omega) ((wri_nes (by decide)).trans ((wri_nes (by decide)).trans ((wri_nes (by decide)).trans q3))) ((wri_nes (by decide)).trans wri_eq) wri_eq (fun K h => (wri_K h).trans ((wri_K h).trans ((wri_K h).trans (q4 K h)))) (fun s a b c => (wri_nes b).trans ((wri_nes c).trans ((wri_nes b).trans (q5 s a b c)))) (show srt T L q = 0 by unfold srt; rw [cif_t hq0]) ((cif_f (by omega)).trans (by rw [tkU_o (by decide) (by decide), q3, Int.add_zero]))
        · have hq1 : q < L := by omega
          refine seg_ok 3 (?_ : EvI X E_X8_next (63, [some (.inr (.inr (some (8, 0, 0))))], [.inl ((wri M1 8 0 0 9 (M1 8 0 0 8)) 8 0 0 8), .inr (.inr (some (8, 0, 0))), .inr (.inr (some (8, 0, 0)))], (wri M1 8 0 0 9 (M1 8 0 0 8))) _)
          rw [show ((wri M1 8 0 0 9 (M1 8 0 0 8)) 8 0 0 8) = (M1 8 0 0 8) from wri_nes (by decide)]
          refine ev_clp (v := .inl (bi ((M1 8 0 0 8) < L ∧ kd (T (M1 8 0 0 8)) = 1))) (z := z_X8_isLetter) (as := [.inr (.inr (some (8, 0, 0))), .inl (M1 8 0 0 8)]) (rest := [.inr (.inr (some (8, 0, 0)))]) rfl (c_isLetter ((wri_nes (by decide)).trans eL1) hL2 (fun k a b => (congrFun (congrFun (congrFun (wri_K (by decide)) 0) 0) k).trans (eT1 k a b)) (by omega)) (?_ : EvI X E_X8_next (66, [some (.inr (.inr (some (8, 0, 0))))], [.inl (bi ((M1 8 0 0 8) < L ∧ kd (T (M1 8 0 0 8)) = 1)), .inr (.inr (some (8, 0, 0)))], (wri M1 8 0 0 9 (M1 8 0 0 8))) _)
          refine seg_ok 1 (?_ : EvI X E_X8_next (if (bi ((M1 8 0 0 8) < L ∧ kd (T (M1 8 0 0 8)) = 1)) = 0 then 73 else 69, [some (.inr (.inr (some (8, 0, 0))))], [.inr (.inr (some (8, 0, 0)))], (wri M1 8 0 0 9 (M1 8 0 0 8))) _)
          refine ev_ifb (fun h66 => ?_) (fun h66 => ?_)
          · rw [q3] at h66
            refine seg_ok 3 (?_ : EvI X E_X8_next (78, [some (.inr (.inr (some (8, 0, 0))))], [.inl ((wri M1 8 0 0 9 (M1 8 0 0 8)) 8 0 0 8), .inr (.inr (some (8, 0, 0))), .inr (.inr (some (8, 0, 0)))], (wri M1 8 0 0 9 (M1 8 0 0 8))) _)
            rw [show ((wri M1 8 0 0 9 (M1 8 0 0 8)) 8 0 0 8) = (M1 8 0 0 8) from wri_nes (by decide)]
            refine ev_clp (v := .inl (bi ((M1 8 0 0 8) < L ∧ kd (T (M1 8 0 0 8)) = 2))) (z := z_X8_isFigure) (as := [.inr (.inr (some (8, 0, 0))), .inl (M1 8 0 0 8)]) (rest := [.inr (.inr (some (8, 0, 0)))]) rfl (c_isFigure ((wri_nes (by decide)).trans eL1) hL2 (fun k a b => (congrFun (congrFun (congrFun (wri_K (by decide)) 0) 0) k).trans (eT1 k a b)) (by omega)) (?_ : EvI X E_X8_next (81, [some (.inr (.inr (some (8, 0, 0))))], [.inl (bi ((M1 8 0 0 8) < L ∧ kd (T (M1 8 0 0 8)) = 2)), .inr (.inr (some (8, 0, 0)))], (wri M1 8 0 0 9 (M1 8 0 0 8))) _)
            refine seg_ok 1 (?_ : EvI X E_X8_next (if (bi ((M1 8 0 0 8) < L ∧ kd (T (M1 8 0 0 8)) = 2)) = 0 then 88 else 84, [some (.inr (.inr (some (8, 0, 0))))], [.inr (.inr (some (8, 0, 0)))], (wri M1 8 0 0 9 (M1 8 0 0 8))) _)
            refine ev_ifb (fun h81 => ?_) (fun h81 => ?_)
            · rw [q3] at h81
              have hq3 : q < L ∧ kd (T q) = 0 := by
                refine ⟨hq1, ?_⟩
                rcases kd_r (T q) with z | z | z
                · exact z
                · exact absurd ⟨hq1, z⟩ h66
                · exact absurd ⟨hq1, z⟩ h81
              refine seg_ok 5 (?_ : EvI X E_X8_next (97, [some (.inr (.inr (some (8, 0, 0))))], [.inl ((wri (wri M1 8 0 0 9 (M1 8 0 0 8)) 8 0 0 10 3) 8 0 0 9), .inr (.inr (some (8, 0, 0)))], (wri (wri M1 8 0 0 9 (M1 8 0 0 8)) 8 0 0 10 3)) _)
              rw [show ((wri (wri M1 8 0 0 9 (M1 8 0 0 8)) 8 0 0 10 3) 8 0 0 9) = (M1 8 0 0 8) from (wri_nes (by decide)).trans (wri_eq)]
              refine seg_ok 2 (?_ : EvI X E_X8_next (101, [some (.inr (.inr (some (8, 0, 0))))], [.inl ((wri (wri M1 8 0 0 9 (M1 8 0 0 8)) 8 0 0 10 3) 8 0 0 10), .inl (M1 8 0 0 8), .inr (.inr (some (8, 0, 0)))], (wri (wri M1 8 0 0 9 (M1 8 0 0 8)) 8 0 0 10 3)) _)
              rw [show ((wri (wri M1 8 0 0 9 (M1 8 0 0 8)) 8 0 0 10 3) 8 0 0 10) = 3 from wri_eq]
              refine seg_ok 6 (⟨by omega, ?_⟩ : ((-2147483648 : Int) ≤ ((M1 8 0 0 8) + 1) ∧ ((M1 8 0 0 8) + 1) < 2147483648) ∧ EvI X E_X8_next (114, [some (.inr (.inr (some (8, 0, 0))))], [], (wri (wri (wri M1 8 0 0 9 (M1 8 0 0 8)) 8 0 0 10 3) 8 0 0 9 ((M1 8 0 0 8) + 1))) _)
              have L114 : ∀ (m114 : Nat) (M2 : NM) (u : Int) (z : Int), L - u < (m114 : Int) → (q ≤ u) → (u ≤ L) → (M2 8 0 0 8 = q) → (M2 8 0 0 10 = z) → (M2 8 0 0 9 = u) → (∀ K, K ≠ 8 → M2 K = M K) → (∀ s, s ≠ 8 → s ≠ 9 → s ≠ 10 → M2 8 0 0 s = M 8 0 0 s) → (srt T L q = z) → (tkE T L q = tkU T L z u) → EvI X E_X8_next (114, [some (.inr (.inr (some (8, 0, 0))))], [], M2) (fun rr MM => rr = none ∧ MM 8 0 0 8 = sk T L (M 8 0 0 9) ∧ MM 8 0 0 9 = tkE T L (sk T L (M 8 0 0 9)) ∧ MM 8 0 0 10 = srt T L (sk T L (M 8 0 0 9)) ∧ (∀ K, K ≠ 8 → MM K = M K) ∧ ∀ s, s ≠ 8 → s ≠ 9 → s ≠ 10 → MM 8 0 0 s = M 8 0 0 s) := by
                intro m114
                induction m114 with
                | zero => intro  M2 u z hm114 p1 p2 p3 p4 p5 p6 p7 p8 p9; exact absurd hm114 (by omega)
                | succ m114 ih114 =>
                  intro  M2 u z hm114 p1 p2 p3 p4 p5 p6 p7 p8 p9
                  have eL2 : M2 8 0 0 6 = L := (p7 6 (by decide) (by decide) (by decide)).trans hL
                  have eT2 : ∀ k, 0 ≤ k → k < L → M2 20 0 0 k = T k := fun k a b => by rw [p6 20 (by decide)]; exact hT k a b
                  refine seg_ok 4 (?_ : EvI X E_X8_next (if (M2 8 0 0 10) = 1 then 122 else 133, [some (.inr (.inr (some (8, 0, 0))))], [], M2) _)
                  refine ev_if (fun h119 => ?_) (fun h119 => ?_)
                  · refine seg_ok 3 (?_ : EvI X E_X8_next (127, [some (.inr (.inr (some (8, 0, 0))))], [.inl (M2 8 0 0 9), .inr (.inr (some (8, 0, 0)))], M2) _)
                    refine ev_clp (v := .inl (bi ((M2 8 0 0 9) < L ∧ kd (T (M2 8 0 0 9)) = 1))) (z := z_X8_isLetter) (as := [.inr (.inr (some (8, 0, 0))), .inl (M2 8 0 0 9)]) (rest := []) rfl (c_isLetter eL2 hL2 eT2 (by omega)) (?_ : EvI X E_X8_next (130, [some (.inr (.inr (some (8, 0, 0))))], [.inl (bi ((M2 8 0 0 9) < L ∧ kd (T (M2 8 0 0 9)) = 1))], M2) _)
                    refine seg_ok 1 (?_ : EvI X E_X8_next (if (bi ((M2 8 0 0 9) < L ∧ kd (T (M2 8 0 0 9)) = 1)) = 0 then 133 else 152, [some (.inr (.inr (some (8, 0, 0))))], [], M2) _)
                    refine ev_ifb (fun h130 => ?_) (fun h130 => ?_)
                    · rw [p5] at h130
                      refine seg_ok 4 (?_ : EvI X E_X8_next (if (M2 8 0 0 10) = 2 then 141 else 165, [some (.inr (.inr (some (8, 0, 0))))], [], M2) _)
                      refine ev_if (fun h138 => ?_) (fun h138 => ?_)
                      · omega
                      · refine ev_rt (r := none) rfl (?_)
                        have eu : tkE T L q = u := p9.trans (by rw [tkU_1 (show z = 1 by omega)]; exact rn_f h130)
                        exact ⟨rfl, p3.trans e4.symm, p5.trans (by rw [e4, eu]), p4.trans (by rw [e4, p8]), p6, p7⟩
                    · rw [p5] at h130
                      refine seg_ok 7 (⟨by omega, ?_⟩ : ((-2147483648 : Int) ≤ ((M2 8 0 0 9) + 1) ∧ ((M2 8 0 0 9) + 1) < 2147483648) ∧ EvI X E_X8_next (114, [some (.inr (.inr (some (8, 0, 0))))], [], (wri M2 8 0 0 9 ((M2 8 0 0 9) + 1))) _)
                      refine ih114 (wri M2 8 0 0 9 ((M2 8 0 0 9) + 1)) (u + 1) z (by omega) (by omega) (by have := h130.1; omega) ((wri_nes (by decide)).trans p3) ((wri_nes (by decide)).trans p4) (wri_eq.trans (by rw [p5])) (fun K h => (wri_K h).trans (p6 K h)) (fun s a b c => (wri_nes b).trans (p7 s a b c)) p8 (p9.trans (by rw [tkU_1 (show z = 1 by omega), tkU_1 (show z = 1 by omega)]; exact rn_t h130.1 h130.2))
                  · refine seg_ok 4 (?_ : EvI X E_X8_next (if (M2 8 0 0 10) = 2 then 141 else 165, [some (.inr (.inr (some (8, 0, 0))))], [], M2) _)
                    refine ev_if (fun h138 => ?_) (fun h138 => ?_)
                    · refine seg_ok 3 (?_ : EvI X E_X8_next (146, [some (.inr (.inr (some (8, 0, 0))))], [.inl (M2 8 0 0 9), .inr (.inr (some (8, 0, 0)))], M2) _)
                      refine ev_clp (v := .inl (bi ((M2 8 0 0 9) < L ∧ kd (T (M2 8 0 0 9)) = 2))) (z := z_X8_isFigure) (as := [.inr (.inr (some (8, 0, 0))), .inl (M2 8 0 0 9)]) (rest := []) rfl (c_isFigure eL2 hL2 eT2 (by omega)) (?_ : EvI X E_X8_next (149, [some (.inr (.inr (some (8, 0, 0))))], [.inl (bi ((M2 8 0 0 9) < L ∧ kd (T (M2 8 0 0 9)) = 2))], M2) _)
                      refine seg_ok 1 (?_ : EvI X E_X8_next (if (bi ((M2 8 0 0 9) < L ∧ kd (T (M2 8 0 0 9)) = 2)) = 0 then 165 else 152, [some (.inr (.inr (some (8, 0, 0))))], [], M2) _)
                      refine ev_ifb (fun h149 => ?_) (fun h149 => ?_)
                      · rw [p5] at h149
                        refine ev_rt (r := none) rfl (?_)
                        have eu : tkE T L q = u := p9.trans (by rw [tkU_2 (show z = 2 by omega)]; exact rn_f h149)
                        exact ⟨rfl, p3.trans e4.symm, p5.trans (by rw [e4, eu]), p4.trans (by rw [e4, p8]), p6, p7⟩
                      · rw [p5] at h149
                        refine seg_ok 7 (⟨by omega, ?_⟩ : ((-2147483648 : Int) ≤ ((M2 8 0 0 9) + 1) ∧ ((M2 8 0 0 9) + 1) < 2147483648) ∧ EvI X E_X8_next (114, [some (.inr (.inr (some (8, 0, 0))))], [], (wri M2 8 0 0 9 ((M2 8 0 0 9) + 1))) _)
                        refine ih114 (wri M2 8 0 0 9 ((M2 8 0 0 9) + 1)) (u + 1) z (by omega) (by omega) (by have := h149.1; omega) ((wri_nes (by decide)).trans p3) ((wri_nes (by decide)).trans p4) (wri_eq.trans (by rw [p5])) (fun K h => (wri_K h).trans (p6 K h)) (fun s a b c => (wri_nes b).trans (p7 s a b c)) p8 (p9.trans (by rw [tkU_2 (show z = 2 by omega), tkU_2 (show z = 2 by omega)]; exact rn_t h149.1 h149.2))
                    · refine ev_rt (r := none) rfl (?_)
                      have eu : tkE T L q = u := p9.trans (by exact tkU_o (by omega) (by omega))
                      exact ⟨rfl, p3.trans e4.symm, p5.trans (by rw [e4, eu]), p4.trans (by rw [e4, p8]), p6, p7⟩
              refine L114 ((L - q) + 1 : Int).toNat (wri (wri (wri M1 8 0 0 9 (M1 8 0 0 8)) 8 0 0 10 3) 8 0 0 9 ((M1 8 0 0 8) + 1)) (M1 8 0 0 8 + 1) 3 (by omega) (by omega) (by omega) ((wri_nes (by decide)).trans ((wri_nes (by decide)).trans ((wri_nes (by decide)).trans q3))) ((wri_nes (by decide)).trans wri_eq) wri_eq (fun K h => (wri_K h).trans ((wri_K h).trans ((wri_K h).trans (q4 K h)))) (fun s a b c => (wri_nes b).trans ((wri_nes c).trans ((wri_nes b).trans (q5 s a b c)))) (show srt T L q = 3 by exact (srt_3 q2).mpr hq3) (((cif_t hq3.1).trans (cif_t hq3.2)).trans (by rw [tkU_o (by decide) (by decide), q3]))
            · rw [q3] at h81
              refine seg_ok 6 (?_ : EvI X E_X8_next (97, [some (.inr (.inr (some (8, 0, 0))))], [.inl ((wri (wri M1 8 0 0 9 (M1 8 0 0 8)) 8 0 0 10 2) 8 0 0 9), .inr (.inr (some (8, 0, 0)))], (wri (wri M1 8 0 0 9 (M1 8 0 0 8)) 8 0 0 10 2)) _)
              rw [show ((wri (wri M1 8 0 0 9 (M1 8 0 0 8)) 8 0 0 10 2) 8 0 0 9) = (M1 8 0 0 8) from (wri_nes (by decide)).trans (wri_eq)]
              refine seg_ok 2 (?_ : EvI X E_X8_next (101, [some (.inr (.inr (some (8, 0, 0))))], [.inl ((wri (wri M1 8 0 0 9 (M1 8 0 0 8)) 8 0 0 10 2) 8 0 0 10), .inl (M1 8 0 0 8), .inr (.inr (some (8, 0, 0)))], (wri (wri M1 8 0 0 9 (M1 8 0 0 8)) 8 0 0 10 2)) _)
              rw [show ((wri (wri M1 8 0 0 9 (M1 8 0 0 8)) 8 0 0 10 2) 8 0 0 10) = 2 from wri_eq]
              refine seg_ok 5 (⟨by omega, ?_⟩ : ((-2147483648 : Int) ≤ ((M1 8 0 0 8) + 0) ∧ ((M1 8 0 0 8) + 0) < 2147483648) ∧ EvI X E_X8_next (114, [some (.inr (.inr (some (8, 0, 0))))], [], (wri (wri (wri M1 8 0 0 9 (M1 8 0 0 8)) 8 0 0 10 2) 8 0 0 9 ((M1 8 0 0 8) + 0))) _)
              have L114 : ∀ (m114 : Nat) (M2 : NM) (u : Int) (z : Int), L - u < (m114 : Int) → (q ≤ u) → (u ≤ L) → (M2 8 0 0 8 = q) → (M2 8 0 0 10 = z) → (M2 8 0 0 9 = u) → (∀ K, K ≠ 8 → M2 K = M K) → (∀ s, s ≠ 8 → s ≠ 9 → s ≠ 10 → M2 8 0 0 s = M 8 0 0 s) → (srt T L q = z) → (tkE T L q = tkU T L z u) → EvI X E_X8_next (114, [some (.inr (.inr (some (8, 0, 0))))], [], M2) (fun rr MM => rr = none ∧ MM 8 0 0 8 = sk T L (M 8 0 0 9) ∧ MM 8 0 0 9 = tkE T L (sk T L (M 8 0 0 9)) ∧ MM 8 0 0 10 = srt T L (sk T L (M 8 0 0 9)) ∧ (∀ K, K ≠ 8 → MM K = M K) ∧ ∀ s, s ≠ 8 → s ≠ 9 → s ≠ 10 → MM 8 0 0 s = M 8 0 0 s) := by
                intro m114
                induction m114 with
                | zero => intro  M2 u z hm114 p1 p2 p3 p4 p5 p6 p7 p8 p9; exact absurd hm114 (by omega)
                | succ m114 ih114 =>
                  intro  M2 u z hm114 p1 p2 p3 p4 p5 p6 p7 p8 p9
                  have eL2 : M2 8 0 0 6 = L := (p7 6 (by decide) (by decide) (by decide)).trans hL
                  have eT2 : ∀ k, 0 ≤ k → k < L → M2 20 0 0 k = T k := fun k a b => by rw [p6 20 (by decide)]; exact hT k a b
                  refine seg_ok 4 (?_ : EvI X E_X8_next (if (M2 8 0 0 10) = 1 then 122 else 133, [some (.inr (.inr (some (8, 0, 0))))], [], M2) _)
                  refine ev_if (fun h119 => ?_) (fun h119 => ?_)
                  · refine seg_ok 3 (?_ : EvI X E_X8_next (127, [some (.inr (.inr (some (8, 0, 0))))], [.inl (M2 8 0 0 9), .inr (.inr (some (8, 0, 0)))], M2) _)
                    refine ev_clp (v := .inl (bi ((M2 8 0 0 9) < L ∧ kd (T (M2 8 0 0 9)) = 1))) (z := z_X8_isLetter) (as := [.inr (.inr (some (8, 0, 0))), .inl (M2 8 0 0 9)]) (rest := []) rfl (c_isLetter eL2 hL2 eT2 (by omega)) (?_ : EvI X E_X8_next (130, [some (.inr (.inr (some (8, 0, 0))))], [.inl (bi ((M2 8 0 0 9) < L ∧ kd (T (M2 8 0 0 9)) = 1))], M2) _)
                    refine seg_ok 1 (?_ : EvI X E_X8_next (if (bi ((M2 8 0 0 9) < L ∧ kd (T (M2 8 0 0 9)) = 1)) = 0 then 133 else 152, [some (.inr (.inr (some (8, 0, 0))))], [], M2) _)
                    refine ev_ifb (fun h130 => ?_) (fun h130 => ?_)
                    · rw [p5] at h130
                      refine seg_ok 4 (?_ : EvI X E_X8_next (if (M2 8 0 0 10) = 2 then 141 else 165, [some (.inr (.inr (some (8, 0, 0))))], [], M2) _)
                      refine ev_if (fun h138 => ?_) (fun h138 => ?_)
                      · omega
                      · refine ev_rt (r := none) rfl (?_)
                        have eu : tkE T L q = u := p9.trans (by rw [tkU_1 (show z = 1 by omega)]; exact rn_f h130)
                        exact ⟨rfl, p3.trans e4.symm, p5.trans (by rw [e4, eu]), p4.trans (by rw [e4, p8]), p6, p7⟩
                    · rw [p5] at h130
                      refine seg_ok 7 (⟨by omega, ?_⟩ : ((-2147483648 : Int) ≤ ((M2 8 0 0 9) + 1) ∧ ((M2 8 0 0 9) + 1) < 2147483648) ∧ EvI X E_X8_next (114, [some (.inr (.inr (some (8, 0, 0))))], [], (wri M2 8 0 0 9 ((M2 8 0 0 9) + 1))) _)
                      refine ih114 (wri M2 8 0 0 9 ((M2 8 0 0 9) + 1)) (u + 1) z (by omega) (by omega) (by have := h130.1; omega) ((wri_nes (by decide)).trans p3) ((wri_nes (by decide)).trans p4) (wri_eq.trans (by rw [p5])) (fun K h => (wri_K h).trans (p6 K h)) (fun s a b c => (wri_nes b).trans (p7 s a b c)) p8 (p9.trans (by rw [tkU_1 (show z = 1 by omega), tkU_1 (show z = 1 by omega)]; exact rn_t h130.1 h130.2))
                  · refine seg_ok 4 (?_ : EvI X E_X8_next (if (M2 8 0 0 10) = 2 then 141 else 165, [some (.inr (.inr (some (8, 0, 0))))], [], M2) _)
                    refine ev_if (fun h138 => ?_) (fun h138 => ?_)
                    · refine seg_ok 3 (?_ : EvI X E_X8_next (146, [some (.inr (.inr (some (8, 0, 0))))], [.inl (M2 8 0 0 9), .inr (.inr (some (8, 0, 0)))], M2) _)
                      refine ev_clp (v := .inl (bi ((M2 8 0 0 9) < L ∧ kd (T (M2 8 0 0 9)) = 2))) (z := z_X8_isFigure) (as := [.inr (.inr (some (8, 0, 0))), .inl (M2 8 0 0 9)]) (rest := []) rfl (c_isFigure eL2 hL2 eT2 (by omega)) (?_ : EvI X E_X8_next (149, [some (.inr (.inr (some (8, 0, 0))))], [.inl (bi ((M2 8 0 0 9) < L ∧ kd (T (M2 8 0 0 9)) = 2))], M2) _)
                      refine seg_ok 1 (?_ : EvI X E_X8_next (if (bi ((M2 8 0 0 9) < L ∧ kd (T (M2 8 0 0 9)) = 2)) = 0 then 165 else 152, [some (.inr (.inr (some (8, 0, 0))))], [], M2) _)
                      refine ev_ifb (fun h149 => ?_) (fun h149 => ?_)
                      · rw [p5] at h149
                        refine ev_rt (r := none) rfl (?_)
                        have eu : tkE T L q = u := p9.trans (by rw [tkU_2 (show z = 2 by omega)]; exact rn_f h149)
                        exact ⟨rfl, p3.trans e4.symm, p5.trans (by rw [e4, eu]), p4.trans (by rw [e4, p8]), p6, p7⟩
                      · rw [p5] at h149
                        refine seg_ok 7 (⟨by omega, ?_⟩ : ((-2147483648 : Int) ≤ ((M2 8 0 0 9) + 1) ∧ ((M2 8 0 0 9) + 1) < 2147483648) ∧ EvI X E_X8_next (114, [some (.inr (.inr (some (8, 0, 0))))], [], (wri M2 8 0 0 9 ((M2 8 0 0 9) + 1))) _)
                        refine ih114 (wri M2 8 0 0 9 ((M2 8 0 0 9) + 1)) (u + 1) z (by omega) (by omega) (by have := h149.1; omega) ((wri_nes (by decide)).trans p3) ((wri_nes (by decide)).trans p4) (wri_eq.trans (by rw [p5])) (fun K h => (wri_K h).trans (p6 K h)) (fun s a b c => (wri_nes b).trans (p7 s a b c)) p8 (p9.trans (by rw [tkU_2 (show z = 2 by omega), tkU_2 (show z = 2 by omega)]; exact rn_t h149.1 h149.2))
                    · refine ev_rt (r := none) rfl (?_)
                      have eu : tkE T L q = u := p9.trans (by exact tkU_o (by omega) (by omega))
                      exact ⟨rfl, p3.trans e4.symm, p5.trans (by rw [e4, eu]), p4.trans (by rw [e4, p8]), p6, p7⟩
              refine L114 ((L - q) + 1 : Int).toNat (wri (wri (wri M1 8 0 0 9 (M1 8 0 0 8)) 8 0 0 10 2) 8 0 0 9 ((M1 8 0 0 8) + 0)) (M1 8 0 0 8 + 0) 2 (by omega) (by omega) (by omega) ((wri_nes (by decide)).trans ((wri_nes (by decide)).trans ((wri_nes (by decide)).trans q3))) ((wri_nes (by decide)).trans wri_eq) wri_eq (fun K h => (wri_K h).trans ((wri_K h).trans ((wri_K h).trans (q4 K h)))) (fun s a b c => (wri_nes b).trans ((wri_nes c).trans ((wri_nes b).trans (q5 s a b c)))) (show srt T L q = 2 by exact (srt_k q2 (Or.inr rfl)).mpr h81) ((tkE_k h81.1 h81.2 (Or.inr rfl)).trans (by rw [tkU_2 rfl, q3, Int.add_zero]))
          · rw [q3] at h66
            refine seg_ok 6 (?_ : EvI X E_X8_next (97, [some (.inr (.inr (some (8, 0, 0))))], [.inl ((wri (wri M1 8 0 0 9 (M1 8 0 0 8)) 8 0 0 10 1) 8 0 0 9), .inr (.inr (some (8, 0, 0)))], (wri (wri M1 8 0 0 9 (M1 8 0 0 8)) 8 0 0 10 1)) _)
            rw [show ((wri (wri M1 8 0 0 9 (M1 8 0 0 8)) 8 0 0 10 1) 8 0 0 9) = (M1 8 0 0 8) from (wri_nes (by decide)).trans (wri_eq)]
            refine seg_ok 2 (?_ : EvI X E_X8_next (101, [some (.inr (.inr (some (8, 0, 0))))], [.inl ((wri (wri M1 8 0 0 9 (M1 8 0 0 8)) 8 0 0 10 1) 8 0 0 10), .inl (M1 8 0 0 8), .inr (.inr (some (8, 0, 0)))], (wri (wri M1 8 0 0 9 (M1 8 0 0 8)) 8 0 0 10 1)) _)
            rw [show ((wri (wri M1 8 0 0 9 (M1 8 0 0 8)) 8 0 0 10 1) 8 0 0 10) = 1 from wri_eq]
            refine seg_ok 5 (⟨by omega, ?_⟩ : ((-2147483648 : Int) ≤ ((M1 8 0 0 8) + 0) ∧ ((M1 8 0 0 8) + 0) < 2147483648) ∧ EvI X E_X8_next (114, [some (.inr (.inr (some (8, 0, 0))))], [], (wri (wri (wri M1 8 0 0 9 (M1 8 0 0 8)) 8 0 0 10 1) 8 0 0 9 ((M1 8 0 0 8) + 0))) _)
            have L114 : ∀ (m114 : Nat) (M2 : NM) (u : Int) (z : Int), L - u < (m114 : Int) → (q ≤ u) → (u ≤ L) → (M2 8 0 0 8 = q) → (M2 8 0 0 10 = z) → (M2 8 0 0 9 = u) → (∀ K, K ≠ 8 → M2 K = M K) → (∀ s, s ≠ 8 → s ≠ 9 → s ≠ 10 → M2 8 0 0 s = M 8 0 0 s) → (srt T L q = z) → (tkE T L q = tkU T L z u) → EvI X E_X8_next (114, [some (.inr (.inr (some (8, 0, 0))))], [], M2) (fun rr MM => rr = none ∧ MM 8 0 0 8 = sk T L (M 8 0 0 9) ∧ MM 8 0 0 9 = tkE T L (sk T L (M 8 0 0 9)) ∧ MM 8 0 0 10 = srt T L (sk T L (M 8 0 0 9)) ∧ (∀ K, K ≠ 8 → MM K = M K) ∧ ∀ s, s ≠ 8 → s ≠ 9 → s ≠ 10 → MM 8 0 0 s = M 8 0 0 s) := by
              intro m114
              induction m114 with
              | zero => intro  M2 u z hm114 p1 p2 p3 p4 p5 p6 p7 p8 p9; exact absurd hm114 (by omega)
              | succ m114 ih114 =>
                intro  M2 u z hm114 p1 p2 p3 p4 p5 p6 p7 p8 p9
                have eL2 : M2 8 0 0 6 = L := (p7 6 (by decide) (by decide) (by decide)).trans hL
                have eT2 : ∀ k, 0 ≤ k → k < L → M2 20 0 0 k = T k := fun k a b => by rw [p6 20 (by decide)]; exact hT k a b
                refine seg_ok 4 (?_ : EvI X E_X8_next (if (M2 8 0 0 10) = 1 then 122 else 133, [some (.inr (.inr (some (8, 0, 0))))], [], M2) _)
                refine ev_if (fun h119 => ?_) (fun h119 => ?_)
                · refine seg_ok 3 (?_ : EvI X E_X8_next (127, [some (.inr (.inr (some (8, 0, 0))))], [.inl (M2 8 0 0 9), .inr (.inr (some (8, 0, 0)))], M2) _)
                  refine ev_clp (v := .inl (bi ((M2 8 0 0 9) < L ∧ kd (T (M2 8 0 0 9)) = 1))) (z := z_X8_isLetter) (as := [.inr (.inr (some (8, 0, 0))), .inl (M2 8 0 0 9)]) (rest := []) rfl (c_isLetter eL2 hL2 eT2 (by omega)) (?_ : EvI X E_X8_next (130, [some (.inr (.inr (some (8, 0, 0))))], [.inl (bi ((M2 8 0 0 9) < L ∧ kd (T (M2 8 0 0 9)) = 1))], M2) _)
                  refine seg_ok 1 (?_ : EvI X E_X8_next (if (bi ((M2 8 0 0 9) < L ∧ kd (T (M2 8 0 0 9)) = 1)) = 0 then 133 else 152, [some (.inr (.inr (some (8, 0, 0))))], [], M2) _)
                  refine ev_ifb (fun h130 => ?_) (fun h130 => ?_)
                  · rw [p5] at h130
                    refine seg_ok 4 (?_ : EvI X E_X8_next (if (M2 8 0 0 10) = 2 then 141 else 165, [some (.inr (.inr (some (8, 0, 0))))], [], M2) _)
                    refine ev_if (fun h138 => ?_) (fun h138 => ?_)
                    · omega
                    · refine ev_rt (r := none) rfl (?_)
                      have eu : tkE T L q = u := p9.trans (by rw [tkU_1 (show z = 1 by omega)]; exact rn_f h130)
                      exact ⟨rfl, p3.trans e4.symm, p5.trans (by rw [e4, eu]), p4.trans (by rw [e4, p8]), p6, p7⟩
                  · rw [p5] at h130
                    refine seg_ok 7 (⟨by omega, ?_⟩ : ((-2147483648 : Int) ≤ ((M2 8 0 0 9) + 1) ∧ ((M2 8 0 0 9) + 1) < 2147483648) ∧ EvI X E_X8_next (114, [some (.inr (.inr (some (8, 0, 0))))], [], (wri M2 8 0 0 9 ((M2 8 0 0 9) + 1))) _)
                    refine ih114 (wri M2 8 0 0 9 ((M2 8 0 0 9) + 1)) (u + 1) z (by omega) (by omega) (by have := h130.1; omega) ((wri_nes (by decide)).trans p3) ((wri_nes (by decide)).trans p4) (wri_eq.trans (by rw [p5])) (fun K h => (wri_K h).trans (p6 K h)) (fun s a b c => (wri_nes b).trans (p7 s a b c)) p8 (p9.trans (by rw [tkU_1 (show z = 1 by omega), tkU_1 (show z = 1 by omega)]; exact rn_t h130.1 h130.2))
                · refine seg_ok 4 (?_ : EvI X E_X8_next (if (M2 8 0 0 10) = 2 then 141 else 165, [some (.inr (.inr (some (8, 0, 0))))], [], M2) _)
                  refine ev_if (fun h138 => ?_) (fun h138 => ?_)
                  · refine seg_ok 3 (?_ : EvI X E_X8_next (146, [some (.inr (.inr (some (8, 0, 0))))], [.inl (M2 8 0 0 9), .inr (.inr (some (8, 0, 0)))], M2) _)
                    refine ev_clp (v := .inl (bi ((M2 8 0 0 9) < L ∧ kd (T (M2 8 0 0 9)) = 2))) (z := z_X8_isFigure) (as := [.inr (.inr (some (8, 0, 0))), .inl (M2 8 0 0 9)]) (rest := []) rfl (c_isFigure eL2 hL2 eT2 (by omega)) (?_ : EvI X E_X8_next (149, [some (.inr (.inr (some (8, 0, 0))))], [.inl (bi ((M2 8 0 0 9) < L ∧ kd (T (M2 8 0 0 9)) = 2))], M2) _)
                    refine seg_ok 1 (?_ : EvI X E_X8_next (if (bi ((M2 8 0 0 9) < L ∧ kd (T (M2 8 0 0 9)) = 2)) = 0 then 165 else 152, [some (.inr (.inr (some (8, 0, 0))))], [], M2) _)
                    refine ev_ifb (fun h149 => ?_) (fun h149 => ?_)
                    · rw [p5] at h149
                      refine ev_rt (r := none) rfl (?_)
                      have eu : tkE T L q = u := p9.trans (by rw [tkU_2 (show z = 2 by omega)]; exact rn_f h149)
                      exact ⟨rfl, p3.trans e4.symm, p5.trans (by rw [e4, eu]), p4.trans (by rw [e4, p8]), p6, p7⟩
                    · rw [p5] at h149
                      refine seg_ok 7 (⟨by omega, ?_⟩ : ((-2147483648 : Int) ≤ ((M2 8 0 0 9) + 1) ∧ ((M2 8 0 0 9) + 1) < 2147483648) ∧ EvI X E_X8_next (114, [some (.inr (.inr (some (8, 0, 0))))], [], (wri M2 8 0 0 9 ((M2 8 0 0 9) + 1))) _)
                      refine ih114 (wri M2 8 0 0 9 ((M2 8 0 0 9) + 1)) (u + 1) z (by omega) (by omega) (by have := h149.1; omega) ((wri_nes (by decide)).trans p3) ((wri_nes (by decide)).trans p4) (wri_eq.trans (by rw [p5])) (fun K h => (wri_K h).trans (p6 K h)) (fun s a b c => (wri_nes b).trans (p7 s a b c)) p8 (p9.trans (by rw [tkU_2 (show z = 2 by omega), tkU_2 (show z = 2 by omega)]; exact rn_t h149.1 h149.2))
                  · refine ev_rt (r := none) rfl (?_)
                    have eu : tkE T L q = u := p9.trans (by exact tkU_o (by omega) (by omega))
                    exact ⟨rfl, p3.trans e4.symm, p5.trans (by rw [e4, eu]), p4.trans (by rw [e4, p8]), p6, p7⟩
            refine L114 ((L - q) + 1 : Int).toNat (wri (wri (wri M1 8 0 0 9 (M1 8 0 0 8)) 8 0 0 10 1) 8 0 0 9 ((M1 8 0 0 8) + 0)) (M1 8 0 0 8 + 0) 1 (by omega) (by omega) (by omega) ((wri_nes (by decide)).trans ((wri_nes (by decide)).trans ((wri_nes (by decide)).trans q3))) ((wri_nes (by decide)).trans wri_eq) wri_eq (fun K h => (wri_K h).trans ((wri_K h).trans ((wri_K h).trans (q4 K h)))) (fun s a b c => (wri_nes b).trans ((wri_nes c).trans ((wri_nes b).trans (q5 s a b c)))) (show srt T L q = 1 by exact (srt_k q2 (Or.inl rfl)).mpr h66) ((tkE_k h66.1 h66.2 (Or.inl rfl)).trans (by rw [tkU_1 rfl, q3, Int.add_zero]))
  refine L8 ((L - M 8 0 0 9) + 1 : Int).toNat (wri M 8 0 0 8 (M 8 0 0 9)) (M 8 0 0 9) (by omega) (by omega) (by omega) wri_eq (fun K h => wri_K h) (fun s a _ _ => wri_nes a) rfl
theorem c_isNumber {M : NM} {T : Int → Int} {L : Int} (hL : M 8 0 0 6 = L) (hL2 : 0 ≤ L ∧ L ≤ 120) (hT : ∀ k, 0 ≤ k → k < L → M 20 0 0 k = T k) {s : Int} (hs : 0 ≤ s ∧ s ≤ L) (h8 : M 8 0 0 8 = s) (h9 : M 8 0 0 9 = tkE T L s) (h10 : M 8 0 0 10 = srt T L s) : HT X z_X8_isNumber [.inr (.inr (some (8, 0, 0)))] M (fun rr MM => rr = some (.inl (bi (isNb T L s))) ∧ MM = M) := by
  refine ht_of (e := E_X8_isNumber) rfl (?_ : EvI X E_X8_isNumber (0, [some (.inr (.inr (some (8, 0, 0))))], [], M) _)
  obtain ⟨t1, t2, t3, t4, t5⟩ := tk_r (T := T) hs.2
  refine seg_ok 4 (?_ : EvI X E_X8_isNumber (if (M 8 0 0 10) = 2 then 8 else 52, [some (.inr (.inr (some (8, 0, 0))))], [], M) _)
  refine ev_if (fun h5 => ?_) (fun h5 => ?_)
  · have hs2 := (srt_k hs.2 (Or.inr rfl)).mp (h10.symm.trans h5)
    refine seg_ok 7 (⟨by omega, ?_⟩ : ((-2147483648 : Int) ≤ ((M 8 0 0 9) - (M 8 0 0 8)) ∧ ((M 8 0 0 9) - (M 8 0 0 8)) < 2147483648) ∧ EvI X E_X8_isNumber (if ((M 8 0 0 9) - (M 8 0 0 8)) < 5 then 21 else 52, [some (.inr (.inr (some (8, 0, 0))))], [], M) _)
    refine ev_if (fun h18 => ?_) (fun h18 => ?_)
    · refine seg_ok 7 (⟨by omega, ?_⟩ : ((-2147483648 : Int) ≤ ((M 8 0 0 9) - (M 8 0 0 8)) ∧ ((M 8 0 0 9) - (M 8 0 0 8)) < 2147483648) ∧ EvI X E_X8_isNumber (if ((M 8 0 0 9) - (M 8 0 0 8)) = 1 then 48 else 34, [some (.inr (.inr (some (8, 0, 0))))], [], M) _)
      refine ev_if (fun h31 => ?_) (fun h31 => ?_)
      · refine seg_ok 2 (?_ : EvI X E_X8_isNumber (53, [some (.inr (.inr (some (8, 0, 0))))], [.inl 1], M) _)
        refine ev_rt (r := some (.inl 1)) rfl (⟨by decide, ?_⟩)
        exact ⟨rint (cif_t (show isNb T L s from ⟨hs2.1, hs2.2, by omega, by omega⟩)).symm, rfl⟩
      · refine seg_ok 7 (⟨by omega, ?_⟩ : ((0 : Int) ≤ (M 8 0 0 8) ∧ (M 8 0 0 8) < 120) ∧ EvI X E_X8_isNumber (if (M 20 0 0 (M 8 0 0 8)) = 48 then 52 else 48, [some (.inr (.inr (some (8, 0, 0))))], [], M) _)
        refine ev_if (fun h45 => ?_) (fun h45 => ?_)
        · rw [show M 20 0 0 (M 8 0 0 8) = T s by rw [h8]; exact hT s hs.1 hs2.1] at h45
          refine seg_ok 1 (?_ : EvI X E_X8_isNumber (53, [some (.inr (.inr (some (8, 0, 0))))], [.inl 0], M) _)
          refine ev_rt (r := some (.inl 0)) rfl (⟨by decide, ?_⟩)
          exact ⟨rint (cif_f (show ¬ isNb T L s from fun z => by have z1 := z.2.2.1; have z2 := z.2.2.2; omega)).symm, rfl⟩
        · rw [show M 20 0 0 (M 8 0 0 8) = T s by rw [h8]; exact hT s hs.1 hs2.1] at h45
          refine seg_ok 2 (?_ : EvI X E_X8_isNumber (53, [some (.inr (.inr (some (8, 0, 0))))], [.inl 1], M) _)
          refine ev_rt (r := some (.inl 1)) rfl (⟨by decide, ?_⟩)
          exact ⟨rint (cif_t (show isNb T L s from ⟨hs2.1, hs2.2, by omega, by omega⟩)).symm, rfl⟩
    · refine seg_ok 1 (?_ : EvI X E_X8_isNumber (53, [some (.inr (.inr (some (8, 0, 0))))], [.inl 0], M) _)
      refine ev_rt (r := some (.inl 0)) rfl (⟨by decide, ?_⟩)
      exact ⟨rint (cif_f (show ¬ isNb T L s from fun z => by have z1 := z.2.2.1; have z2 := z.2.2.2; omega)).symm, rfl⟩
  · refine seg_ok 1 (?_ : EvI X E_X8_isNumber (53, [some (.inr (.inr (some (8, 0, 0))))], [.inl 0], M) _)
    refine ev_rt (r := some (.inl 0)) rfl (⟨by decide, ?_⟩)
    exact ⟨rint (cif_f (show ¬ isNb T L s from fun z => h5 (h10.trans ((srt_k hs.2 (Or.inr rfl)).mpr ⟨z.1, z.2.1⟩)))).symm, rfl⟩
theorem c_value {M : NM} {T : Int → Int} {L : Int} (hL : M 8 0 0 6 = L) (hL2 : 0 ≤ L ∧ L ≤ 120) (hT : ∀ k, 0 ≤ k → k < L → M 20 0 0 k = T k) {s : Int} (hs : 0 ≤ s ∧ s ≤ L) (h8 : M 8 0 0 8 = s) (h9 : M 8 0 0 9 = tkE T L s) (h10 : M 8 0 0 10 = srt T L s) (hN : isNb T L s) : HT X z_X8_value [.inr (.inr (some (8, 0, 0)))] M (fun rr MM => rr = some (.inl (numC T L s)) ∧ MM = M) := by
  refine ht_of (e := E_X8_value) rfl (?_ : EvI X E_X8_value (0, [some (.inr (.inr (some (8, 0, 0)))), none, none], [], M) _)
  obtain ⟨t1, t2, t3, t4, t5⟩ := tk_r (T := T) hs.2
  have hN1 := hN.2.2.1
  refine seg_ok 5 (?_ : EvI X E_X8_value (7, [some (.inr (.inr (some (8, 0, 0)))), some (.inl 0), some (.inl (M 8 0 0 8))], [], M) _)
  have L7 : ∀ (m7 : Nat) (v i : Int), tkE T L s - i < (m7 : Int) → (s ≤ i) → (i ≤ tkE T L s) → (v = val T s i) → ((i = s ∧ v = 0) ∨ 0 ≤ v ∧ ((i = s + 1 ∧ v ≤ 9) ∨ (i = s + 2 ∧ v ≤ 99) ∨ (i = s + 3 ∧ v ≤ 999) ∨ (i = s + 4 ∧ v ≤ 9999))) → EvI X E_X8_value (7, [some (.inr (.inr (some (8, 0, 0)))), some (.inl v), some (.inl i)], [], M) (fun rr MM => rr = some (.inl (numC T L s)) ∧ MM = M) := by
    intro m7
    induction m7 with
    | zero => intro v i hm7 a1 a2 a3 a5; exact absurd hm7 (by omega)
    | succ m7 ih7 =>
      intro v i hm7 a1 a2 a3 a5
      refine seg_ok 4 (?_ : EvI X E_X8_value (if i < (M 8 0 0 9) then 15 else 36, [some (.inr (.inr (some (8, 0, 0)))), some (.inl v), some (.inl i)], [], M) _)
      refine ev_if (fun h12 => ?_) (fun h12 => ?_)
      · have hd := hT i (by omega) (by omega)
        have hk := kd_2.mp ((t4 i a1 (by omega)).trans hN.2.1)
        refine seg_ok 13 (⟨by omega, by omega, by omega, by omega, by omega, ?_⟩ : ((-2147483648 : Int) ≤ (10 * v) ∧ (10 * v) < 2147483648) ∧ ((0 : Int) ≤ i ∧ i < 120) ∧ ((-2147483648 : Int) ≤ ((10 * v) + (M 20 0 0 i)) ∧ ((10 * v) + (M 20 0 0 i)) < 2147483648) ∧ ((-2147483648 : Int) ≤ (((10 * v) + (M 20 0 0 i)) - 48) ∧ (((10 * v) + (M 20 0 0 i)) - 48) < 2147483648) ∧ ((-2147483648 : Int) ≤ (i + 1) ∧ (i + 1) < 2147483648) ∧ EvI X E_X8_value (7, [some (.inr (.inr (some (8, 0, 0)))), some (.inl (((10 * v) + (M 20 0 0 i)) - 48)), some (.inl (i + 1))], [], M) _)
        refine ih7 (((10 * v) + (M 20 0 0 i)) - 48) (i + 1) (by omega) (by omega) (by omega) (by rw [val_s a1, ← a3, hT i (by omega) (by omega)]) (by omega)
      · refine seg_ok 1 (?_ : EvI X E_X8_value (37, [some (.inr (.inr (some (8, 0, 0)))), some (.inl v), some (.inl i)], [.inl v], M) _)
        refine ev_rt (r := some (.inl v)) rfl (?_)
        exact ⟨rint (a3.trans (by rw [num_t hN, show i = tkE T L s by omega])), rfl⟩
  refine L7 ((tkE T L s - (M 8 0 0 8)) + 1 : Int).toNat 0 (M 8 0 0 8) (by omega) (by omega) (by omega) (h8 ▸ val_0.symm) (by omega)
theorem c_word {M : NM} {T : Int → Int} {L : Int} (hL : M 8 0 0 6 = L) (hL2 : 0 ≤ L ∧ L ≤ 120) (hT : ∀ k, 0 ≤ k → k < L → M 20 0 0 k = T k) {s : Int} (hs : 0 ≤ s ∧ s ≤ L) (h8 : M 8 0 0 8 = s) (h9 : M 8 0 0 9 = tkE T L s) (h10 : M 8 0 0 10 = srt T L s) : HT X z_X8_word [.inr (.inr (some (8, 0, 0)))] M (fun rr MM => rr = some (.inr (.inl (wdC T L s))) ∧ MM = M) := by
  refine ht_of (e := E_X8_word) rfl (?_ : EvI X E_X8_word (0, [some (.inr (.inr (some (8, 0, 0)))), none, none, none], [], M) _)
  obtain ⟨t1, t2, t3, t4, t5⟩ := tk_r (T := T) hs.2
  refine seg_ok 5 (?_ : EvI X E_X8_word (7, [some (.inr (.inr (some (8, 0, 0)))), some (.inr (.inl 0)), none, some (.inl (M 8 0 0 8))], [], M) _)
  have L7 : ∀ (m7 : Nat) (v i : Int), tkE T L s - i < (m7 : Int) → (s ≤ i) → (i ≤ tkE T L s) → (v = pkT T s i) → (s < i → s < L ∧ kd (T s) = 1 ∧ tkE T L s - s < 9) → EvI X E_X8_word (7, [some (.inr (.inr (some (8, 0, 0)))), some (.inr (.inl v)), none, some (.inl i)], [], M) (fun rr MM => rr = some (.inr (.inl (wdC T L s))) ∧ MM = M) := by
    intro m7
    induction m7 with
    | zero => intro v i hm7 a1 a2 a3 a4; exact absurd hm7 (by omega)
    | succ m7 ih7 =>
      intro v i hm7 a1 a2 a3 a4
      refine seg_ok 4 (?_ : EvI X E_X8_word (if i < (M 8 0 0 9) then 15 else 56, [some (.inr (.inr (some (8, 0, 0)))), some (.inr (.inl v)), none, some (.inl i)], [], M) _)
      refine ev_if (fun h12 => ?_) (fun h12 => ?_)
      · refine seg_ok 4 (?_ : EvI X E_X8_word (if (M 8 0 0 10) = 1 then 23 else 56, [some (.inr (.inr (some (8, 0, 0)))), some (.inr (.inl v)), none, some (.inl i)], [], M) _)
        refine ev_if (fun h20 => ?_) (fun h20 => ?_)
        · refine seg_ok 7 (⟨by omega, ?_⟩ : ((-2147483648 : Int) ≤ ((M 8 0 0 9) - (M 8 0 0 8)) ∧ ((M 8 0 0 9) - (M 8 0 0 8)) < 2147483648) ∧ EvI X E_X8_word (if ((M 8 0 0 9) - (M 8 0 0 8)) < 9 then 37 else 56, [some (.inr (.inr (some (8, 0, 0)))), some (.inr (.inl v)), none, some (.inl i)], [], M) _)
          refine ev_if (fun h34 => ?_) (fun h34 => ?_)
          · have hz : s < L ∧ kd (T s) = 1 ∧ tkE T L s - s < 9 := by
              have y := (srt_k hs.2 (Or.inl rfl)).mp (h10.symm.trans h20)
              exact ⟨y.1, y.2, by omega⟩
            have hb := pkT_b (T := T) (s := s) (k := i) (by omega) (fun x x0 x1 => (t4 x x0 (by omega)).trans hz.2.1)
            have hk := kd_1.mp ((t4 i a1 (by omega)).trans hz.2.1)
            refine seg_ok 12 (⟨by omega, by omega, ?_⟩ : ((0 : Int) ≤ i ∧ i < 120) ∧ ((-2147483648 : Int) ≤ (i + 1) ∧ (i + 1) < 2147483648) ∧ EvI X E_X8_word (7, [some (.inr (.inr (some (8, 0, 0)))), some (.inr (.inl (lorI (lshlI v 8) (M 20 0 0 i)))), none, some (.inl (i + 1))], [], M) _)
            refine ih7 (lorI (lshlI v 8) (M 20 0 0 i)) (i + 1) (by omega) (by omega) (by omega) (by
      rw [pkT_s a1, ← a3, hT i (by omega) (by omega)]
      exact lw_step (a3 ▸ hb.1) (by omega) (by rw [a3]; omega)) (fun _ => hz)
          · refine seg_ok 1 (?_ : EvI X E_X8_word (57, [some (.inr (.inr (some (8, 0, 0)))), some (.inr (.inl v)), none, some (.inl i)], [.inr (.inl v)], M) _)
            refine ev_rt (r := some (.inr (.inl v))) rfl (?_)
            exact ⟨rlng (wd_e hs.2 a3 a4 (Or.inr ⟨Classical.byContradiction fun y => (by have y2 := (a4 (by omega)).2.2; omega), fun y => by have y2 := y.2.2; omega⟩)), rfl⟩
        · refine seg_ok 1 (?_ : EvI X E_X8_word (57, [some (.inr (.inr (some (8, 0, 0)))), some (.inr (.inl v)), none, some (.inl i)], [.inr (.inl v)], M) _)
          refine ev_rt (r := some (.inr (.inl v))) rfl (?_)
          exact ⟨rlng (wd_e hs.2 a3 a4 (Or.inr ⟨Classical.byContradiction fun y => h20 (h10.trans ((srt_k hs.2 (Or.inl rfl)).mpr ⟨(a4 (by omega)).1, (a4 (by omega)).2.1⟩)), fun y => h20 (h10.trans ((srt_k hs.2 (Or.inl rfl)).mpr ⟨y.1, y.2.1⟩))⟩)), rfl⟩
      · refine seg_ok 1 (?_ : EvI X E_X8_word (57, [some (.inr (.inr (some (8, 0, 0)))), some (.inr (.inl v)), none, some (.inl i)], [.inr (.inl v)], M) _)
        refine ev_rt (r := some (.inr (.inl v))) rfl (?_)
        exact ⟨rlng (wd_e hs.2 a3 a4 (Or.inl (by omega))), rfl⟩
  refine L7 ((tkE T L s - (M 8 0 0 8)) + 1 : Int).toNat 0 (M 8 0 0 8) (by omega) (by omega) (by omega) (h8 ▸ pkT_0.symm) (by omega)
set_option maxRecDepth 2100 in
theorem c_orderBy {M : NM} {w : Int} : HT X z_X8_orderBy [.inr (.inr (some (8, 0, 0))), .inr (.inl w)] M (fun rr MM => rr = some (.inl (ordW w)) ∧ MM = M) := by
  refine ht_of (e := E_X8_orderBy) rfl (?_ : EvI X E_X8_orderBy (0, [some (.inr (.inr (some (8, 0, 0)))), some (.inr (.inl w)), none, none], [], M) _)
  refine seg_ok 4 (?_ : EvI X E_X8_orderBy (if (lcmI w 1752132708) = 0 then 8 else 12, [some (.inr (.inr (some (8, 0, 0)))), some (.inr (.inl w)), none, none], [], M) _)
  refine ev_if (fun h5 => ?_) (fun h5 => ?_)
  · refine seg_ok 7 (?_ : EvI X E_X8_orderBy (97, [some (.inr (.inr (some (8, 0, 0)))), some (.inr (.inl w)), none, some (.inl 1)], [.inl 1], M) _)
    refine ev_rt (r := some (.inl 1)) rfl (?_)
    exact ⟨rint (by rw [ordW, cif_t (lcm0.mp h5)]), rfl⟩
  · refine seg_ok 4 (?_ : EvI X E_X8_orderBy (if (lcmI w 6452601) = 0 then 20 else 24, [some (.inr (.inr (some (8, 0, 0)))), some (.inr (.inl w)), none, none], [], M) _)
    refine ev_if (fun h17 => ?_) (fun h17 => ?_)
    · refine seg_ok 7 (?_ : EvI X E_X8_orderBy (97, [some (.inr (.inr (some (8, 0, 0)))), some (.inr (.inl w)), none, some (.inl 2)], [.inl 2], M) _)
      refine ev_rt (r := some (.inl 2)) rfl (?_)
      exact ⟨rint (by rw [ordW, cif_f (fun z => h5 (lcm0.mpr z)), cif_t (lcm0.mp h17)]), rfl⟩
    · refine seg_ok 4 (?_ : EvI X E_X8_orderBy (if (lcmI w 1685221232) = 0 then 32 else 36, [some (.inr (.inr (some (8, 0, 0)))), some (.inr (.inl w)), none, none], [], M) _)
      refine ev_if (fun h29 => ?_) (fun h29 => ?_)
      · refine seg_ok 7 (?_ : EvI X E_X8_orderBy (97, [some (.inr (.inr (some (8, 0, 0)))), some (.inr (.inl w)), none, some (.inl 3)], [.inl 3], M) _)
        refine ev_rt (r := some (.inl 3)) rfl (?_)
        exact ⟨rint (by rw [ordW, cif_f (fun z => h5 (lcm0.mpr z)), cif_f (fun z => h17 (lcm0.mpr z)), cif_t (lcm0.mp h29)]), rfl⟩
      · refine seg_ok 4 (?_ : EvI X E_X8_orderBy (if (lcmI w 1650549611) = 0 then 44 else 48, [some (.inr (.inr (some (8, 0, 0)))), some (.inr (.inl w)), none, none], [], M) _)
        refine ev_if (fun h41 => ?_) (fun h41 => ?_)
        · refine seg_ok 7 (?_ : EvI X E_X8_orderBy (97, [some (.inr (.inr (some (8, 0, 0)))), some (.inr (.inl w)), none, some (.inl 4)], [.inl 4], M) _)
          refine ev_rt (r := some (.inl 4)) rfl (?_)
          exact ⟨rint (by rw [ordW, cif_f (fun z => h5 (lcm0.mpr z)), cif_f (fun z => h17 (lcm0.mpr z)), cif_f (fun z => h29 (lcm0.mpr z)), cif_t (lcm0.mp h41)]), rfl⟩
        · refine seg_ok 8 (?_ : EvI X E_X8_orderBy (if (lcmI w 26990) = 0 then 66 else 70, [some (.inr (.inr (some (8, 0, 0)))), some (.inr (.inl w)), none, some (.inl 0)], [], M) _)
          refine ev_if (fun h63 => ?_) (fun h63 => ?_)
          · refine seg_ok 2 (?_ : EvI X E_X8_orderBy (97, [some (.inr (.inr (some (8, 0, 0)))), some (.inr (.inl w)), none, some (.inl 0)], [.inl 5], M) _)
            refine ev_rt (r := some (.inl 5)) rfl (?_)
            exact ⟨rint (by rw [ordW, cif_f (fun z => h5 (lcm0.mpr z)), cif_f (fun z => h17 (lcm0.mpr z)), cif_f (fun z => h29 (lcm0.mpr z)), cif_f (fun z => h41 (lcm0.mpr z)), cif_t (lcm0.mp h63)]), rfl⟩
          · refine seg_ok 4 (?_ : EvI X E_X8_orderBy (if (lcmI w 30064) = 0 then 78 else 83, [some (.inr (.inr (some (8, 0, 0)))), some (.inr (.inl w)), none, some (.inl 0)], [], M) _)
            refine ev_if (fun h75 => ?_) (fun h75 => ?_)
            · refine seg_ok 2 (?_ : EvI X E_X8_orderBy (97, [some (.inr (.inr (some (8, 0, 0)))), some (.inr (.inl w)), none, some (.inl 0)], [.inl 6], M) _)
              refine ev_rt (r := some (.inl 6)) rfl (?_)
              exact ⟨rint (by rw [ordW, cif_f (fun z => h5 (lcm0.mpr z)), cif_f (fun z => h17 (lcm0.mpr z)), cif_f (fun z => h29 (lcm0.mpr z)), cif_f (fun z => h41 (lcm0.mpr z)), cif_f (fun z => h63 (lcm0.mpr z)), cif_t (lcm0.mp h75)]), rfl⟩
            · refine seg_ok 4 (?_ : EvI X E_X8_orderBy (if (lcmI w 2002872692) = 0 then 91 else 96, [some (.inr (.inr (some (8, 0, 0)))), some (.inr (.inl w)), none, some (.inl 0)], [], M) _)
              refine ev_if (fun h88 => ?_) (fun h88 => ?_)
              · refine seg_ok 2 (?_ : EvI X E_X8_orderBy (97, [some (.inr (.inr (some (8, 0, 0)))), some (.inr (.inl w)), none, some (.inl 0)], [.inl 7], M) _)
                refine ev_rt (r := some (.inl 7)) rfl (?_)
                exact ⟨rint (by rw [ordW, cif_f (fun z => h5 (lcm0.mpr z)), cif_f (fun z => h17 (lcm0.mpr z)), cif_f (fun z => h29 (lcm0.mpr z)), cif_f (fun z => h41 (lcm0.mpr z)), cif_f (fun z => h63 (lcm0.mpr z)), cif_f (fun z => h75 (lcm0.mpr z)), cif_t (lcm0.mp h88)]), rfl⟩
              · refine seg_ok 1 (?_ : EvI X E_X8_orderBy (97, [some (.inr (.inr (some (8, 0, 0)))), some (.inr (.inl w)), none, some (.inl 0)], [.inl 0], M) _)
                refine ev_rt (r := some (.inl 0)) rfl (?_)
                exact ⟨rint (by rw [ordW, cif_f (fun z => h5 (lcm0.mpr z)), cif_f (fun z => h17 (lcm0.mpr z)), cif_f (fun z => h29 (lcm0.mpr z)), cif_f (fun z => h41 (lcm0.mpr z)), cif_f (fun z => h63 (lcm0.mpr z)), cif_f (fun z => h75 (lcm0.mpr z)), cif_f (fun z => h88 (lcm0.mpr z))]), rfl⟩
set_option maxRecDepth 1890 in
theorem c_done {m : Int} {M : NM} {S : Sl} (hW : RW m M S) (hm : m + 1 ≤ 62000) {o : Int} (ho : 1 ≤ o ∧ o ≤ 7) : HT X z_X8_done [.inr (.inr (some (8, 0, 0))), .inl o] M (fun rr MM => rr = some (.inl (opO o S (M 21 0 0 0) (M 21 0 0 1) (M 21 0 0 2)).1) ∧ RR (MM 17 0 0) (opO o S (M 21 0 0 0) (M 21 0 0 1) (M 21 0 0 2)).2 ∧ MM 17 0 0 4 = M 17 0 0 4 ∧ F17 M MM) := by
  refine ht_of (e := E_X8_done) rfl (?_ : EvI X E_X8_done (0, [some (.inr (.inr (some (8, 0, 0)))), some (.inl o), none], [], M) _)
  refine seg_ok 7 (⟨by decide, ?_⟩ : ((0 : Int) ≤ 0 ∧ (0 : Int) < 3) ∧ EvI X E_X8_done (if o = 1 then 48 else if o = 2 then 66 else if o = 3 then 72 else if o = 4 then 78 else if o = 5 then 84 else if o = 6 then 90 else 96, [some (.inr (.inr (some (8, 0, 0)))), some (.inl o), some (.inl (M 21 0 0 0))], [], M) _)
  refine ev_if (fun h8 => ?_) (fun h8_0 => ?_)
  · refine seg_ok 10 (⟨by omega, by omega, ?_⟩ : ((0 : Int) ≤ 1 ∧ (1 : Int) < 3) ∧ ((0 : Int) ≤ 2 ∧ (2 : Int) < 3) ∧ EvI X E_X8_done (62, [some (.inr (.inr (some (8, 0, 0)))), some (.inl o), some (.inl (M 21 0 0 0))], [.inl (M 21 0 0 2), .inl (M 21 0 0 1), .inl (M 21 0 0 0), .inr (.inr (some (8, 0, 0)))], M) _)
    refine ev_cl (z := z_X8_holds) (as := [.inr (.inr (some (8, 0, 0))), .inl (M 21 0 0 0), .inl (M 21 0 0 1), .inl (M 21 0 0 2)]) (rest := []) rfl (c_holds hW) ?_
    intro rr M1 hq
    obtain ⟨rfl, r1, u1, g1⟩ := hq
    show EvI X E_X8_done (65, [some (.inr (.inr (some (8, 0, 0)))), some (.inl o), some (.inl (M 21 0 0 0))], [.inl ((opHold S (M 21 0 0 0) (M 21 0 0 1) (M 21 0 0 2)).1)], M1) _
    refine ev_rt (r := some (.inl ((opHold S (M 21 0 0 0) (M 21 0 0 1) (M 21 0 0 2)).1))) rfl (?_)
    have e : (opO o S (M 21 0 0 0) (M 21 0 0 1) (M 21 0 0 2)) = opHold S (M 21 0 0 0) (M 21 0 0 1) (M 21 0 0 2) := by
      rw [opO, cif_t (by omega)]
    rw [e]
    exact ⟨rfl, r1, u1, g1⟩
  refine ev_if (fun h8 => ?_) (fun h8_1 => ?_)
  · refine seg_ok 2 (?_ : EvI X E_X8_done (68, [some (.inr (.inr (some (8, 0, 0)))), some (.inl o), some (.inl (M 21 0 0 0))], [.inl (M 21 0 0 0), .inr (.inr (some (8, 0, 0)))], M) _)
    refine ev_cl (z := z_X8_buys) (as := [.inr (.inr (some (8, 0, 0))), .inl (M 21 0 0 0)]) (rest := []) rfl (c_buys hW) ?_
    intro rr M2 hq
    obtain ⟨rfl, r1, u1, g1⟩ := hq
    show EvI X E_X8_done (71, [some (.inr (.inr (some (8, 0, 0)))), some (.inl o), some (.inl (M 21 0 0 0))], [.inl ((opBuy S (M 21 0 0 0)).1)], M2) _
    refine ev_rt (r := some (.inl ((opBuy S (M 21 0 0 0)).1))) rfl (?_)
    have e : (opO o S (M 21 0 0 0) (M 21 0 0 1) (M 21 0 0 2)) = opBuy S (M 21 0 0 0) := by
      rw [opO, cif_f (by omega), cif_t (by omega)]
    rw [e]
    exact ⟨rfl, r1, u1, g1⟩
  refine ev_if (fun h8 => ?_) (fun h8_2 => ?_)
  · refine seg_ok 2 (?_ : EvI X E_X8_done (74, [some (.inr (.inr (some (8, 0, 0)))), some (.inl o), some (.inl (M 21 0 0 0))], [.inl (M 21 0 0 0), .inr (.inr (some (8, 0, 0)))], M) _)
    refine ev_cl (z := z_X8_drops) (as := [.inr (.inr (some (8, 0, 0))), .inl (M 21 0 0 0)]) (rest := []) rfl (c_drops hW) ?_
    intro rr M3 hq
    obtain ⟨rfl, r1, u1, g1⟩ := hq
    show EvI X E_X8_done (77, [some (.inr (.inr (some (8, 0, 0)))), some (.inl o), some (.inl (M 21 0 0 0))], [.inl ((opDrop S (M 21 0 0 0)).1)], M3) _
    refine ev_rt (r := some (.inl ((opDrop S (M 21 0 0 0)).1))) rfl (?_)
    have e : (opO o S (M 21 0 0 0) (M 21 0 0 1) (M 21 0 0 2)) = opDrop S (M 21 0 0 0) := by
      rw [opO, cif_f (by omega), cif_f (by omega), cif_t (by omega)]
    rw [e]
    exact ⟨rfl, r1, u1, g1⟩
  refine ev_if (fun h8 => ?_) (fun h8_3 => ?_)
  · refine seg_ok 2 (?_ : EvI X E_X8_done (80, [some (.inr (.inr (some (8, 0, 0)))), some (.inl o), some (.inl (M 21 0 0 0))], [.inl (M 21 0 0 0), .inr (.inr (some (8, 0, 0)))], M) _)
    refine ev_cl (z := z_X8_givesBack) (as := [.inr (.inr (some (8, 0, 0))), .inl (M 21 0 0 0)]) (rest := []) rfl (c_givesBack hW) ?_
    intro rr M4 hq
    obtain ⟨rfl, r1, u1, g1⟩ := hq
    show EvI X E_X8_done (83, [some (.inr (.inr (some (8, 0, 0)))), some (.inl o), some (.inl (M 21 0 0 0))], [.inl ((opBack S (M 21 0 0 0)).1)], M4) _
    refine ev_rt (r := some (.inl ((opBack S (M 21 0 0 0)).1))) rfl (?_)
    have e : (opO o S (M 21 0 0 0) (M 21 0 0 1) (M 21 0 0 2)) = opBack S (M 21 0 0 0) := by
      rw [opO, cif_f (by omega), cif_f (by omega), cif_f (by omega), cif_t (by omega)]
    rw [e]
    exact ⟨rfl, r1, u1, g1⟩
  refine ev_if (fun h8 => ?_) (fun h8_4 => ?_)
  · refine seg_ok 2 (?_ : EvI X E_X8_done (86, [some (.inr (.inr (some (8, 0, 0)))), some (.inl o), some (.inl (M 21 0 0 0))], [.inl (M 21 0 0 0), .inr (.inr (some (8, 0, 0)))], M) _)
    refine ev_cl (z := z_X8_comes) (as := [.inr (.inr (some (8, 0, 0))), .inl (M 21 0 0 0)]) (rest := []) rfl (c_comes hW hm) ?_
    intro rr M5 hq
    obtain ⟨rfl, r1, u1, g1⟩ := hq
    show EvI X E_X8_done (89, [some (.inr (.inr (some (8, 0, 0)))), some (.inl o), some (.inl (M 21 0 0 0))], [.inl ((opIn S (M 21 0 0 0)).1)], M5) _
    refine ev_rt (r := some (.inl ((opIn S (M 21 0 0 0)).1))) rfl (?_)
    have e : (opO o S (M 21 0 0 0) (M 21 0 0 1) (M 21 0 0 2)) = opIn S (M 21 0 0 0) := by
      rw [opO, cif_f (by omega), cif_f (by omega), cif_f (by omega), cif_f (by omega), cif_t (by omega)]
    rw [e]
    exact ⟨rfl, r1, u1, g1⟩
  refine ev_if (fun h8 => ?_) (fun h8_5 => ?_)
  · refine seg_ok 2 (?_ : EvI X E_X8_done (92, [some (.inr (.inr (some (8, 0, 0)))), some (.inl o), some (.inl (M 21 0 0 0))], [.inl (M 21 0 0 0), .inr (.inr (some (8, 0, 0)))], M) _)
    refine ev_cl (z := z_X8_puts) (as := [.inr (.inr (some (8, 0, 0))), .inl (M 21 0 0 0)]) (rest := []) rfl (c_puts hW) ?_
    intro rr M6 hq
    obtain ⟨rfl, r1, u1, g1⟩ := hq
    show EvI X E_X8_done (95, [some (.inr (.inr (some (8, 0, 0)))), some (.inl o), some (.inl (M 21 0 0 0))], [.inl ((opUp S (M 21 0 0 0)).1)], M6) _
    refine ev_rt (r := some (.inl ((opUp S (M 21 0 0 0)).1))) rfl (?_)
    have e : (opO o S (M 21 0 0 0) (M 21 0 0 1) (M 21 0 0 2)) = opUp S (M 21 0 0 0) := by
      rw [opO, cif_f (by omega), cif_f (by omega), cif_f (by omega), cif_f (by omega), cif_f (by omega), cif_t (by omega)]
    rw [e]
    exact ⟨rfl, r1, u1, g1⟩
  refine seg_ok 2 (?_ : EvI X E_X8_done (98, [some (.inr (.inr (some (8, 0, 0)))), some (.inl o), some (.inl (M 21 0 0 0))], [.inl (M 21 0 0 0), .inr (.inr (some (8, 0, 0)))], M) _)
  refine ev_cl (z := z_X8_passes) (as := [.inr (.inr (some (8, 0, 0))), .inl (M 21 0 0 0)]) (rest := []) rfl (c_passes hW) ?_
  intro rr M7 hq
  obtain ⟨rfl, r1, u1, g1⟩ := hq
  show EvI X E_X8_done (101, [some (.inr (.inr (some (8, 0, 0)))), some (.inl o), some (.inl (M 21 0 0 0))], [.inl ((opPass S (M 21 0 0 0)).1)], M7) _
  refine ev_rt (r := some (.inl ((opPass S (M 21 0 0 0)).1))) rfl (?_)
  have e : (opO o S (M 21 0 0 0) (M 21 0 0 1) (M 21 0 0 2)) = opPass S (M 21 0 0 0) := by
    rw [opO, cif_f (by omega), cif_f (by omega), cif_f (by omega), cif_f (by omega), cif_f (by omega), cif_f (by omega)]
  rw [e]
  exact ⟨rfl, r1, u1, g1⟩
end
