/-! 32: the reference: chain, text -/
section
variable {X : XI}
theorem c_chain {m : Int} {M : NM} {S : Sl} (hW : RW m M S) (hS : SHo (M 17 0 0) S) (hA : 0 ≤ M 8 0 0 4 ∧ M 8 0 0 4 ≤ 5) (hm : m + 20 ≤ 62000) {x : Int} : HT X z_X8_chain [.inr (.inr (some (8, 0, 0))), .inl x] M (fun rr MM => rr = some (.inl (cif (0 ≤ x ∧ x < S 5 0 4) (opChain S x).1 (-1))) ∧ (∀ k, 0 ≤ k → k < 589 → MM 17 0 0 k = M 17 0 0 k) ∧ Fo (fun K => K = 8 ∨ K = 17 ∨ K = 18) M MM ∧ ∀ j i s, s ≠ 0 → s ≠ 7 → MM 8 j i s = M 8 j i s) := by
  have hs := hW.1.1
  have hi := hW.2.1
  unfold Iv0 at hi
  refine ht_of (e := E_X8_chain) rfl (?_ : EvI X E_X8_chain (0, [some (.inr (.inr (some (8, 0, 0)))), some (.inl x), none, none], [], M) _)
  refine seg_ok 1 (?_ : EvI X E_X8_chain (1, [some (.inr (.inr (some (8, 0, 0)))), some (.inl x), none, none], [.inr (.inr (some (8, 0, 0)))], M) _)
  refine ev_cl (z := z_X8_aside) (as := [.inr (.inr (some (8, 0, 0)))]) (rest := []) rfl c_aside ?_
  intro rr M1 hqM1
  obtain ⟨rfl, aM1, bM1, dM1⟩ := hqM1
  have hWM1 : RW m M1 S := RW_fr (bM1 17 (by decide)) hW
  have hAM1 : 0 ≤ M1 8 0 0 4 ∧ M1 8 0 0 4 ≤ 5 := by rw [dM1 0 0 4 (by decide)]; exact hA
  show EvI X E_X8_chain (4, [some (.inr (.inr (some (8, 0, 0)))), some (.inl x), none, none], [], M1) _
  refine seg_ok 2 (?_ : EvI X E_X8_chain (6, [some (.inr (.inr (some (8, 0, 0)))), some (.inl x), none, none], [.inl x, .inr (.inr (some (8, 0, 0)))], M1) _)
  refine ev_clp (v := .inl (bi (0 ≤ x ∧ x < S 5 0 4))) (z := z_X8_isTicket) (as := [.inr (.inr (some (8, 0, 0))), .inl x]) (rest := []) rfl (c_isTicket hWM1) (?_ : EvI X E_X8_chain (9, [some (.inr (.inr (some (8, 0, 0)))), some (.inl x), none, none], [.inl (bi (0 ≤ x ∧ x < S 5 0 4))], M1) _)
  refine seg_ok 1 (?_ : EvI X E_X8_chain (if (bi (0 ≤ x ∧ x < S 5 0 4)) = 0 then 12 else 14, [some (.inr (.inr (some (8, 0, 0)))), some (.inl x), none, none], [], M1) _)
  refine ev_ifb (fun h9 => ?_) (fun h9 => ?_)
  · refine seg_ok 1 (?_ : EvI X E_X8_chain (13, [some (.inr (.inr (some (8, 0, 0)))), some (.inl x), none, none], [.inl (-1)], M1) _)
    refine ev_rt (r := some (.inl (-1))) rfl (?_)
    exact ⟨rint (cif_f h9).symm, fun k _ _ => congrFun (congrFun (congrFun (bM1 17 (by decide)) 0) 0) k, fun K h => bM1 K (fun z => h (z.elim Or.inl (fun y => Or.inr (Or.inr y)))), fun j i s a _ => dM1 j i s a⟩
  · refine seg_ok 2 (?_ : EvI X E_X8_chain (16, [some (.inr (.inr (some (8, 0, 0)))), some (.inl x), none, none], [.inl x, .inr (.inr (some (8, 0, 0)))], M1) _)
    refine ev_clp (v := .inl (whN S x)) (z := z_X8_whyNot) (as := [.inr (.inr (some (8, 0, 0))), .inl x]) (rest := []) rfl (c_whyNot hWM1) (?_ : EvI X E_X8_chain (19, [some (.inr (.inr (some (8, 0, 0)))), some (.inl x), none, none], [.inl (whN S x)], M1) _)
    refine seg_ok 1 (?_ : EvI X E_X8_chain (if (whN S x) = 0 then 22 else 30, [some (.inr (.inr (some (8, 0, 0)))), some (.inl x), none, none], [], M1) _)
    refine ev_if (fun h19 => ?_) (fun h19 => ?_)
    · have h := whN_iff.mp h19
      refine seg_ok 2 (?_ : EvI X E_X8_chain (24, [some (.inr (.inr (some (8, 0, 0)))), some (.inl x), none, none], [.inl x, .inr (.inr (some (8, 0, 0)))], M1) _)
      refine ev_cl (z := z_X8_chains) (as := [.inr (.inr (some (8, 0, 0))), .inl x]) (rest := []) rfl (c_chains hWM1 hm h.1 h.2) ?_
      intro rr M2 hqM2
      obtain ⟨rfl, rM2, uM2, gM2⟩ := hqM2
      have hAM2 : 0 ≤ M2 8 0 0 4 ∧ M2 8 0 0 4 ≤ 5 := by rw [gM2.2 0 0 4 (by decide)]; exact hAM1
      show EvI X E_X8_chain (27, [some (.inr (.inr (some (8, 0, 0)))), some (.inl x), none, none], [.inl ((opChain S x).1)], M2) _
      refine seg_ok 4 (?_ : EvI X E_X8_chain (34, [some (.inr (.inr (some (8, 0, 0)))), some (.inl x), some (.inl ((opChain S x).1)), some (.inl 0)], [], M2) _)
      have L34 : ∀ (m34 : Nat) (k : Int) (Mk : NM) (Mb : NM), 589 - k < (m34 : Int) → (0 ≤ k) → (k ≤ 589) → (∀ k2, 0 ≤ k2 → k2 < k → Mk 17 0 0 k2 = M 17 0 0 k2) → (∀ K, K ≠ 17 → Mk K = Mb K) → (Fo (fun K => K = 8 ∨ K = 17 ∨ K = 18) M Mk) → (∀ j i s, s ≠ 0 → s ≠ 7 → Mk 8 j i s = M 8 j i s) → (∀ k2, 0 ≤ k2 → k2 < 589 → Mk 18 0 0 k2 = M 17 0 0 k2) → EvI X E_X8_chain (34, [some (.inr (.inr (some (8, 0, 0)))), some (.inl x), some (.inl ((opChain S x).1)), some (.inl k)], [], Mk) (fun rr MM => rr = some (.inl (cif (0 ≤ x ∧ x < S 5 0 4) (opChain S x).1 (-1))) ∧ (∀ k, 0 ≤ k → k < 589 → MM 17 0 0 k = M 17 0 0 k) ∧ Fo (fun K => K = 8 ∨ K = 17 ∨ K = 18) M MM ∧ ∀ j i s, s ≠ 0 → s ≠ 7 → MM 8 j i s = M 8 j i s) := by
        intro m34
        induction m34 with
        | zero => intro k Mk Mb hm34 q1 q2 q3 q4 q5 q6 q7; exact absurd hm34 (by omega)
        | succ m34 ih34 =>
          intro k Mk Mb hm34 q1 q2 q3 q4 q5 q6 q7
          refine seg_ok 3 (?_ : EvI X E_X8_chain (if k < 589 then 41 else 59, [some (.inr (.inr (some (8, 0, 0)))), some (.inl x), some (.inl ((opChain S x).1)), some (.inl k)], [], Mk) _)
          refine ev_if (fun h38 => ?_) (fun h38 => ?_)
          · refine seg_ok 10 (⟨by omega, by omega, by omega, ?_⟩ : ((0 : Int) ≤ k ∧ k < 589) ∧ ((0 : Int) ≤ k ∧ k < 589) ∧ ((-2147483648 : Int) ≤ (k + 1) ∧ (k + 1) < 2147483648) ∧ EvI X E_X8_chain (34, [some (.inr (.inr (some (8, 0, 0)))), some (.inl x), some (.inl ((opChain S x).1)), some (.inl (k + 1))], [], (wri Mk 17 0 0 k (Mk 18 0 0 k))) _)
            refine ih34 (k + 1) (wri Mk 17 0 0 k (Mk 18 0 0 k)) Mb (by omega) (by omega) (by omega) (fun k2 a b => by
      by_cases z : k2 = k
      · rw [z]; exact wri_eq.trans (q7 k q1 (by omega))
      · exact (wri_nes z).trans (q3 k2 a (by omega))) (fun K h => (wri_K h).trans (q4 K h)) (fun K h => (wri_K (fun z => h (Or.inr (Or.inl z)))).trans (q5 K h)) (fun j i s a b => (congrFun (congrFun (congrFun (wri_K (by decide)) j) i) s).trans (q6 j i s a b)) (fun k2 a b => (congrFun (congrFun (congrFun (wri_K (by decide)) 0) 0) k2).trans (q7 k2 a b))
          · refine seg_ok 1 (?_ : EvI X E_X8_chain (60, [some (.inr (.inr (some (8, 0, 0)))), some (.inl x), some (.inl ((opChain S x).1)), some (.inl k)], [.inl ((opChain S x).1)], Mk) _)
            refine ev_rt (r := some (.inl ((opChain S x).1))) rfl (?_)
            obtain rfl : k = 589 := by omega
            exact ⟨rint (by rw [cif_t h9]), fun k2 a b => q3 k2 a (by omega), q5, q6⟩
      refine L34 ((589 - 0) + 1 : Int).toNat 0 M2 M2 (by omega) (by omega) (by omega) (fun k2 a b => by omega) (fun _ _ => rfl) (fun K h => (gM2.1 K (fun z => h (Or.inr (Or.inl z))) (fun z => h (Or.inl z))).trans (bM1 K (fun z => h (z.elim Or.inl (fun y => Or.inr (Or.inr y)))))) (fun j i s a b => (gM2.2 j i s b).trans (dM1 j i s a)) (fun k2 a b => by rw [gM2.1 18 (by decide) (by decide)]; exact aM1 k2 a b)
    · refine seg_ok 4 (?_ : EvI X E_X8_chain (34, [some (.inr (.inr (some (8, 0, 0)))), some (.inl x), some (.inl 0), some (.inl 0)], [], M1) _)
      have L34 : ∀ (m34 : Nat) (k : Int) (Mk : NM) (Mb : NM), 589 - k < (m34 : Int) → (0 ≤ k) → (k ≤ 589) → (∀ k2, 0 ≤ k2 → k2 < k → Mk 17 0 0 k2 = M 17 0 0 k2) → (∀ K, K ≠ 17 → Mk K = Mb K) → (Fo (fun K => K = 8 ∨ K = 17 ∨ K = 18) M Mk) → (∀ j i s, s ≠ 0 → s ≠ 7 → Mk 8 j i s = M 8 j i s) → (∀ k2, 0 ≤ k2 → k2 < 589 → Mk 18 0 0 k2 = M 17 0 0 k2) → EvI X E_X8_chain (34, [some (.inr (.inr (some (8, 0, 0)))), some (.inl x), some (.inl 0), some (.inl k)], [], Mk) (fun rr MM => rr = some (.inl (cif (0 ≤ x ∧ x < S 5 0 4) (opChain S x).1 (-1))) ∧ (∀ k, 0 ≤ k → k < 589 → MM 17 0 0 k = M 17 0 0 k) ∧ Fo (fun K => K = 8 ∨ K = 17 ∨ K = 18) M MM ∧ ∀ j i s, s ≠ 0 → s ≠ 7 → MM 8 j i s = M 8 j i s) := by
        intro m34
        induction m34 with
        | zero => intro k Mk Mb hm34 q1 q2 q3 q4 q5 q6 q7; exact absurd hm34 (by omega)
        | succ m34 ih34 =>
          intro k Mk Mb hm34 q1 q2 q3 q4 q5 q6 q7
          refine seg_ok 3 (?_ : EvI X E_X8_chain (if k < 589 then 41 else 59, [some (.inr (.inr (some (8, 0, 0)))), some (.inl x), some (.inl 0), some (.inl k)], [], Mk) _)
          refine ev_if (fun h38 => ?_) (fun h38 => ?_)
          · refine seg_ok 10 (⟨by omega, by omega, by omega, ?_⟩ : ((0 : Int) ≤ k ∧ k < 589) ∧ ((0 : Int) ≤ k ∧ k < 589) ∧ ((-2147483648 : Int) ≤ (k + 1) ∧ (k + 1) < 2147483648) ∧ EvI X E_X8_chain (34, [some (.inr (.inr (some (8, 0, 0)))), some (.inl x), some (.inl 0), some (.inl (k + 1))], [], (wri Mk 17 0 0 k (Mk 18 0 0 k))) _)
            refine ih34 (k + 1) (wri Mk 17 0 0 k (Mk 18 0 0 k)) Mb (by omega) (by omega) (by omega) (fun k2 a b => by
      by_cases z : k2 = k
      · rw [z]; exact wri_eq.trans (q7 k q1 (by omega))
      · exact (wri_nes z).trans (q3 k2 a (by omega))) (fun K h => (wri_K h).trans (q4 K h)) (fun K h => (wri_K (fun z => h (Or.inr (Or.inl z)))).trans (q5 K h)) (fun j i s a b => (congrFun (congrFun (congrFun (wri_K (by decide)) j) i) s).trans (q6 j i s a b)) (fun k2 a b => (congrFun (congrFun (congrFun (wri_K (by decide)) 0) 0) k2).trans (q7 k2 a b))
          · refine seg_ok 1 (?_ : EvI X E_X8_chain (60, [some (.inr (.inr (some (8, 0, 0)))), some (.inl x), some (.inl 0), some (.inl k)], [.inl 0], Mk) _)
            refine ev_rt (r := some (.inl 0)) rfl (?_)
            obtain rfl : k = 589 := by omega
            exact ⟨rint (by rw [cif_t h9, show opChain S x = (0, S) from cif_t (fun z => h19 (whN_iff.mpr ⟨h9, z⟩))]), fun k2 a b => q3 k2 a (by omega), q5, q6⟩
      refine L34 ((589 - 0) + 1 : Int).toNat 0 M1 M1 (by omega) (by omega) (by omega) (fun k2 a b => by omega) (fun _ _ => rfl) (fun K h => bM1 K (fun z => h (z.elim Or.inl (fun y => Or.inr (Or.inr y))))) (fun j i s a b => dM1 j i s a) aM1
theorem c_append {M : NM} (hL : 0 ≤ M 8 0 0 6 ∧ M 8 0 0 6 ≤ 120) {c : Int} : HT X z_X8_append [.inr (.inr (some (8, 0, 0))), .inl c] M (fun rr MM => rr = some (.inl (cif (¬ (1 ≤ c ∧ c ≤ 255)) (-1) (cif (M 8 0 0 6 = 120) (-3) (M 8 0 0 6 + 1)))) ∧ ((cif (¬ (1 ≤ c ∧ c ≤ 255)) (-1) (cif (M 8 0 0 6 = 120) (-3) (M 8 0 0 6 + 1))) < 0 → MM 8 0 0 6 = M 8 0 0 6 ∧ MM 20 = M 20) ∧ (0 ≤ (cif (¬ (1 ≤ c ∧ c ≤ 255)) (-1) (cif (M 8 0 0 6 = 120) (-3) (M 8 0 0 6 + 1))) → MM 8 0 0 6 = M 8 0 0 6 + 1 ∧ MM 20 0 0 (M 8 0 0 6) = c ∧ ∀ k, k ≠ M 8 0 0 6 → MM 20 0 0 k = M 20 0 0 k) ∧ Fo (fun K => K = 8 ∨ K = 20) M MM ∧ MM 8 0 0 4 = M 8 0 0 4) := by
  refine ht_of (e := E_X8_append) rfl (?_ : EvI X E_X8_append (0, [some (.inr (.inr (some (8, 0, 0)))), some (.inl c)], [], M) _)
  refine seg_ok 6 (?_ : EvI X E_X8_append (10, [some (.inr (.inr (some (8, 0, 0)))), some (.inl c)], [.inl 255, .inl 1, .inl c], (wri M 8 0 0 0 0)) _)
  refine ev_clp (v := .inl (bi (1 ≤ c ∧ c ≤ 255))) (z := z_X8_in) (as := [.inl c, .inl 1, .inl 255]) (rest := []) rfl c_in (?_ : EvI X E_X8_append (13, [some (.inr (.inr (some (8, 0, 0)))), some (.inl c)], [.inl (bi (1 ≤ c ∧ c ≤ 255))], (wri M 8 0 0 0 0)) _)
  refine seg_ok 1 (?_ : EvI X E_X8_append (if (bi (1 ≤ c ∧ c ≤ 255)) = 0 then 16 else 18, [some (.inr (.inr (some (8, 0, 0)))), some (.inl c)], [], (wri M 8 0 0 0 0)) _)
  refine ev_ifb (fun h13 => ?_) (fun h13 => ?_)
  · refine seg_ok 1 (?_ : EvI X E_X8_append (17, [some (.inr (.inr (some (8, 0, 0)))), some (.inl c)], [.inl (-1)], (wri M 8 0 0 0 0)) _)
    refine ev_rt (r := some (.inl (-1))) rfl (?_)
    have e : cif (¬ (1 ≤ c ∧ c ≤ 255)) (-1) (cif (M 8 0 0 6 = 120) (-3) (M 8 0 0 6 + 1)) = (-1) := cif_t h13
    rw [e]
    exact ⟨rfl, fun _ => ⟨(show wri M 8 0 0 0 0 8 0 0 6 = M 8 0 0 6 from wri_nes (by decide)), (show wri M 8 0 0 0 0 20 = M 20 from wri_K (by decide))⟩, fun z => absurd z (by decide), fun K h => wri_K (fun z => h (Or.inl z)), (show wri M 8 0 0 0 0 8 0 0 4 = M 8 0 0 4 from wri_nes (by decide))⟩
  · refine seg_ok 2 (?_ : EvI X E_X8_append (22, [some (.inr (.inr (some (8, 0, 0)))), some (.inl c)], [.inl ((wri M 8 0 0 0 0) 8 0 0 6)], (wri M 8 0 0 0 0)) _)
    rw [show ((wri M 8 0 0 0 0) 8 0 0 6) = (M 8 0 0 6) from wri_nes (by decide)]
    refine seg_ok 2 (?_ : EvI X E_X8_append (if (M 8 0 0 6) = 120 then 27 else 30, [some (.inr (.inr (some (8, 0, 0)))), some (.inl c)], [], (wri M 8 0 0 0 0)) _)
    refine ev_if (fun h24 => ?_) (fun h24 => ?_)
    · refine seg_ok 1 (?_ : EvI X E_X8_append (29, [some (.inr (.inr (some (8, 0, 0)))), some (.inl c)], [.inl (-3)], (wri M 8 0 0 0 0)) _)
      refine ev_rt (r := some (.inl (-3))) rfl (?_)
      have e : cif (¬ (1 ≤ c ∧ c ≤ 255)) (-1) (cif (M 8 0 0 6 = 120) (-3) (M 8 0 0 6 + 1)) = (-3) := (cif_f (fun z => z h13)).trans (cif_t h24)
      rw [e]
      exact ⟨rfl, fun _ => ⟨(show wri M 8 0 0 0 0 8 0 0 6 = M 8 0 0 6 from wri_nes (by decide)), (show wri M 8 0 0 0 0 20 = M 20 from wri_K (by decide))⟩, fun z => absurd z (by decide), fun K h => wri_K (fun z => h (Or.inl z)), (show wri M 8 0 0 0 0 8 0 0 4 = M 8 0 0 4 from wri_nes (by decide))⟩
    · refine seg_ok 4 (?_ : EvI X E_X8_append (38, [some (.inr (.inr (some (8, 0, 0)))), some (.inl c)], [.inl ((wri M 8 0 0 0 0) 8 0 0 6), .inr (.inr (some (20, 0, 0)))], (wri M 8 0 0 0 0)) _)
      rw [show ((wri M 8 0 0 0 0) 8 0 0 6) = (M 8 0 0 6) from wri_nes (by decide)]
      refine seg_ok 5 (⟨by omega, ?_⟩ : ((0 : Int) ≤ (M 8 0 0 6) ∧ (M 8 0 0 6) < 120) ∧ EvI X E_X8_append (45, [some (.inr (.inr (some (8, 0, 0)))), some (.inl c)], [.inl ((wri M 8 0 0 0 0) 8 0 0 6), .inr (.inr (some (8, 0, 0)))], (wri (wri M 8 0 0 0 0) 20 0 0 (M 8 0 0 6) c)) _)
      rw [show ((wri M 8 0 0 0 0) 8 0 0 6) = (M 8 0 0 6) from wri_nes (by decide)]
      refine seg_ok 5 (⟨by omega, ?_⟩ : ((-2147483648 : Int) ≤ ((M 8 0 0 6) + 1) ∧ ((M 8 0 0 6) + 1) < 2147483648) ∧ EvI X E_X8_append (54, [some (.inr (.inr (some (8, 0, 0)))), some (.inl c)], [.inl ((wri (wri (wri M 8 0 0 0 0) 20 0 0 (M 8 0 0 6) c) 8 0 0 6 ((M 8 0 0 6) + 1)) 8 0 0 6)], (wri (wri (wri M 8 0 0 0 0) 20 0 0 (M 8 0 0 6) c) 8 0 0 6 ((M 8 0 0 6) + 1))) _)
      rw [show ((wri (wri (wri M 8 0 0 0 0) 20 0 0 (M 8 0 0 6) c) 8 0 0 6 ((M 8 0 0 6) + 1)) 8 0 0 6) = ((M 8 0 0 6) + 1) from wri_eq]
      refine ev_rt (r := some (.inl ((M 8 0 0 6) + 1))) rfl (?_)
      have e : cif (¬ (1 ≤ c ∧ c ≤ 255)) (-1) (cif (M 8 0 0 6 = 120) (-3) (M 8 0 0 6 + 1)) = M 8 0 0 6 + 1 := (cif_f (fun z => z h13)).trans (cif_f h24)
      rw [e]
      show _ ∧ (_ → (wri (wri (wri M 8 0 0 0 0) 20 0 0 (M 8 0 0 6) c) 8 0 0 6 ((M 8 0 0 6) + 1)) 8 0 0 6 = M 8 0 0 6 ∧ (wri (wri (wri M 8 0 0 0 0) 20 0 0 (M 8 0 0 6) c) 8 0 0 6 ((M 8 0 0 6) + 1)) 20 = M 20) ∧ (_ → (wri (wri (wri M 8 0 0 0 0) 20 0 0 (M 8 0 0 6) c) 8 0 0 6 ((M 8 0 0 6) + 1)) 8 0 0 6 = M 8 0 0 6 + 1 ∧ (wri (wri (wri M 8 0 0 0 0) 20 0 0 (M 8 0 0 6) c) 8 0 0 6 ((M 8 0 0 6) + 1)) 20 0 0 (M 8 0 0 6) = c ∧ ∀ k, k ≠ M 8 0 0 6 → (wri (wri (wri M 8 0 0 0 0) 20 0 0 (M 8 0 0 6) c) 8 0 0 6 ((M 8 0 0 6) + 1)) 20 0 0 k = M 20 0 0 k) ∧ Fo (fun K => K = 8 ∨ K = 20) M (wri (wri (wri M 8 0 0 0 0) 20 0 0 (M 8 0 0 6) c) 8 0 0 6 ((M 8 0 0 6) + 1)) ∧ (wri (wri (wri M 8 0 0 0 0) 20 0 0 (M 8 0 0 6) c) 8 0 0 6 ((M 8 0 0 6) + 1)) 8 0 0 4 = M 8 0 0 4
      refine ⟨rfl, fun z => by omega, fun _ => ⟨wri_eq, ?_, fun k h => ?_⟩, fun K h => ?_, ?_⟩
      · rw [wri_K (by decide)]; exact wri_eq
      · rw [wri_K (by decide)]; exact (wri_nes h).trans (congrFun (congrFun (congrFun (wri_K (by decide)) 0) 0) k)
      · exact (wri_K (fun z => h (Or.inl z))).trans ((wri_K (fun z => h (Or.inr z))).trans (wri_K (fun z => h (Or.inl z))))
      · exact (wri_nes (by decide)).trans ((congrFun (congrFun (congrFun (wri_K (by decide)) 0) 0) 4).trans (wri_nes (by decide)))
theorem c_clearText {M : NM} : HT X z_X8_clearText [.inr (.inr (some (8, 0, 0)))] M (fun rr MM => rr = some (.inl (M 8 0 0 6)) ∧ MM 8 0 0 6 = 0 ∧ Fo (fun K => K = 8) M MM ∧ MM 8 0 0 4 = M 8 0 0 4) := by
  refine ht_of (e := E_X8_clearText) rfl (?_ : EvI X E_X8_clearText (0, [some (.inr (.inr (some (8, 0, 0)))), none], [], M) _)
  refine seg_ok 5 (?_ : EvI X E_X8_clearText (9, [some (.inr (.inr (some (8, 0, 0)))), none], [.inl ((wri M 8 0 0 0 0) 8 0 0 6)], (wri M 8 0 0 0 0)) _)
  rw [show ((wri M 8 0 0 0 0) 8 0 0 6) = (M 8 0 0 6) from wri_nes (by decide)]
  refine seg_ok 5 (?_ : EvI X E_X8_clearText (16, [some (.inr (.inr (some (8, 0, 0)))), some (.inl (M 8 0 0 6))], [.inl (M 8 0 0 6)], (wri (wri M 8 0 0 0 0) 8 0 0 6 0)) _)
  refine ev_rt (r := some (.inl (M 8 0 0 6))) rfl (?_)
  exact ⟨rfl, (show wri (wri M 8 0 0 0 0) 8 0 0 6 0 8 0 0 6 = 0 from wri_eq), fun K h => (wri_K h).trans (wri_K h), (show wri (wri M 8 0 0 0 0) 8 0 0 6 0 8 0 0 4 = M 8 0 0 4 from (wri_nes (by decide)).trans (wri_nes (by decide)))⟩
end
