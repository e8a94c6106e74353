/-! 27: the reference: rows laid aside, kept -/
section
variable {X : XI}
/-- a row is kept: the last, or the oldest goes -/
def HK (P : Int → Int) (M MM : NM) : Prop := (M 8 0 0 4 < 5 → MM 8 0 0 4 = M 8 0 0 4 + 1 ∧ (∀ k, 0 ≤ k → k < 589 * M 8 0 0 4 → MM 19 0 0 k = M 19 0 0 k) ∧ ∀ k, 0 ≤ k → k < 589 → MM 19 0 0 (589 * M 8 0 0 4 + k) = P k) ∧ (M 8 0 0 4 = 5 → MM 8 0 0 4 = 5 ∧ (∀ k, 0 ≤ k → k < 2356 → MM 19 0 0 k = M 19 0 0 (k + 589)) ∧ ∀ k, 0 ≤ k → k < 589 → MM 19 0 0 (2356 + k) = P k)
def Fo (A : Nat → Prop) (M MM : NM) : Prop := ∀ K, ¬ A K → MM K = M K
def F8s (s0 : Int) (M MM : NM) : Prop := ∀ j i s, s ≠ s0 → MM 8 j i s = M 8 j i s
theorem c_aside {M : NM} : HT X z_X8_aside [.inr (.inr (some (8, 0, 0)))] M (fun rr MM => rr = none ∧ (∀ k, 0 ≤ k → k < 589 → MM 18 0 0 k = M 17 0 0 k) ∧ Fo (fun K => K = 8 ∨ K = 18) M MM ∧ F8s 0 M MM) := by
  refine ht_of (e := E_X8_aside) rfl (?_ : EvI X E_X8_aside (0, [some (.inr (.inr (some (8, 0, 0)))), none], [], M) _)
  refine seg_ok 5 (?_ : EvI X E_X8_aside (7, [some (.inr (.inr (some (8, 0, 0)))), some (.inl 0)], [], (wri M 8 0 0 0 0)) _)
  have L7 : ∀ (m7 : Nat) (k : Int) (M1 : NM), 589 - k < (m7 : Int) → (0 ≤ k) → (k ≤ 589) → (∀ k2, 0 ≤ k2 → k2 < k → M1 18 0 0 k2 = M 17 0 0 k2) → (Fo (fun K => K = 8 ∨ K = 18) M M1) → (F8s 0 M M1) → EvI X E_X8_aside (7, [some (.inr (.inr (some (8, 0, 0)))), some (.inl k)], [], M1) (fun rr MM => rr = none ∧ (∀ k, 0 ≤ k → k < 589 → MM 18 0 0 k = M 17 0 0 k) ∧ Fo (fun K => K = 8 ∨ K = 18) M MM ∧ F8s 0 M MM) := by
    intro m7
    induction m7 with
    | zero => intro k M1 hm7 q1 q2 q3 q4 q5; exact absurd hm7 (by omega)
    | succ m7 ih7 =>
      intro k M1 hm7 q1 q2 q3 q4 q5
      refine seg_ok 3 (?_ : EvI X E_X8_aside (if k < 589 then 14 else 32, [some (.inr (.inr (some (8, 0, 0)))), some (.inl k)], [], M1) _)
      refine ev_if (fun h11 => ?_) (fun h11 => ?_)
      · refine seg_ok 10 (⟨by omega, by omega, by omega, ?_⟩ : ((0 : Int) ≤ k ∧ k < 589) ∧ ((0 : Int) ≤ k ∧ k < 589) ∧ ((-2147483648 : Int) ≤ (k + 1) ∧ (k + 1) < 2147483648) ∧ EvI X E_X8_aside (7, [some (.inr (.inr (some (8, 0, 0)))), some (.inl (k + 1))], [], (wri M1 18 0 0 k (M1 17 0 0 k))) _)
        refine ih7 (k + 1) (wri M1 18 0 0 k (M1 17 0 0 k)) (by omega) (by omega) (by omega) (fun k2 a b => by
      by_cases z : k2 = k
      · rw [z]; exact wri_eq.trans (congrFun (congrFun (congrFun (q4 17 (by decide)) 0) 0) k)
      · exact (wri_nes z).trans (q3 k2 a (by omega))) (fun K h => (wri_K (fun z => h (Or.inr z))).trans (q4 K h)) (fun j i s h => (congrFun (congrFun (congrFun (wri_K (by decide)) j) i) s).trans (q5 j i s h))
      · refine ev_rt (r := none) rfl (?_)
        exact ⟨rfl, fun k2 a b => q3 k2 a (by omega), q4, q5⟩
  refine L7 ((589 - 0) + 1 : Int).toNat 0 (wri M 8 0 0 0 0) (by omega) (by omega) (by omega) (fun k2 a b => by omega) (fun K h => wri_K (fun z => h (Or.inl z))) (fun j i s h => wri_nes h)
set_option maxRecDepth 2220 in
theorem c_keep {M : NM} (hA : 0 ≤ M 8 0 0 4 ∧ M 8 0 0 4 ≤ 5) : HT X z_X8_keep [.inr (.inr (some (8, 0, 0)))] M (fun rr MM => rr = none ∧ HK (M 18 0 0) M MM ∧ Fo (fun K => K = 8 ∨ K = 19) M MM ∧ F8s 4 M MM) := by
  refine ht_of (e := E_X8_keep) rfl (?_ : EvI X E_X8_keep (0, [some (.inr (.inr (some (8, 0, 0)))), none], [], M) _)
  refine seg_ok 4 (?_ : EvI X E_X8_keep (if (M 8 0 0 4) = 5 then 8 else 49, [some (.inr (.inr (some (8, 0, 0)))), none], [], M) _)
  refine ev_if (fun h5 => ?_) (fun h5 => ?_)
  · refine seg_ok 2 (?_ : EvI X E_X8_keep (10, [some (.inr (.inr (some (8, 0, 0)))), some (.inl 0)], [], M) _)
    have L10 : ∀ (m10 : Nat) (k : Int) (M1 : NM), 2356 - k < (m10 : Int) → (0 ≤ k) → (k ≤ 2356) → (∀ x, 0 ≤ x → x < k → M1 19 0 0 x = M 19 0 0 (x + 589)) → (∀ x, k ≤ x → M1 19 0 0 x = M 19 0 0 x) → (∀ K, K ≠ 19 → M1 K = M K) → EvI X E_X8_keep (10, [some (.inr (.inr (some (8, 0, 0)))), some (.inl k)], [], M1) (fun rr MM => rr = none ∧ HK (M 18 0 0) M MM ∧ Fo (fun K => K = 8 ∨ K = 19) M MM ∧ F8s 4 M MM) := by
      intro m10
      induction m10 with
      | zero => intro k M1 hm10 q1 q2 q3 q4 q5; exact absurd hm10 (by omega)
      | succ m10 ih10 =>
        intro k M1 hm10 q1 q2 q3 q4 q5
        have e8 : M1 8 0 0 4 = M 8 0 0 4 := congrFun (congrFun (congrFun (q5 8 (by decide)) 0) 0) 4
        refine seg_ok 3 (?_ : EvI X E_X8_keep (if k < 2356 then 17 else 39, [some (.inr (.inr (some (8, 0, 0)))), some (.inl k)], [], M1) _)
        refine ev_if (fun h14 => ?_) (fun h14 => ?_)
        · refine seg_ok 12 (⟨by omega, by omega, by omega, by omega, ?_⟩ : ((-2147483648 : Int) ≤ (k + 589) ∧ (k + 589) < 2147483648) ∧ ((0 : Int) ≤ (k + 589) ∧ (k + 589) < 2945) ∧ ((0 : Int) ≤ k ∧ k < 2945) ∧ ((-2147483648 : Int) ≤ (k + 1) ∧ (k + 1) < 2147483648) ∧ EvI X E_X8_keep (10, [some (.inr (.inr (some (8, 0, 0)))), some (.inl (k + 1))], [], (wri M1 19 0 0 k (M1 19 0 0 (k + 589)))) _)
          refine ih10 (k + 1) (wri M1 19 0 0 k (M1 19 0 0 (k + 589))) (by omega) (by omega) (by omega) (fun x a b => by
      by_cases z : x = k
      · rw [z]; exact wri_eq.trans (q4 (k + 589) (by omega))
      · exact (wri_nes z).trans (q3 x a (by omega))) (fun x a => (wri_nes (by omega)).trans (q4 x (by omega))) (fun K h => (wri_K h).trans (q5 K h))
        · refine seg_ok 8 (⟨by omega, ?_⟩ : ((-2147483648 : Int) ≤ ((M1 8 0 0 4) - 1) ∧ ((M1 8 0 0 4) - 1) < 2147483648) ∧ EvI X E_X8_keep (51, [some (.inr (.inr (some (8, 0, 0)))), some (.inl 0)], [], (wri M1 8 0 0 4 ((M1 8 0 0 4) - 1))) _)
          have L51 : ∀ (m51 : Nat) (k : Int) (M2 : NM) (Mb : NM) (A : Int), 589 - k < (m51 : Int) → (0 ≤ k) → (k ≤ 589) → (∀ x, 0 ≤ x → x < k → M2 19 0 0 (589 * A + x) = Mb 18 0 0 x) → (∀ x, ¬ (589 * A ≤ x ∧ x < 589 * A + k) → M2 19 0 0 x = Mb 19 0 0 x) → (∀ K, K ≠ 19 → M2 K = Mb K) → (Mb 8 0 0 4 = A ∧ 0 ≤ A ∧ A ≤ 4) → ((∀ K, K ≠ 8 → K ≠ 19 → Mb K = M K) ∧ F8s 4 M Mb ∧ ((M 8 0 0 4 < 5 ∧ A = M 8 0 0 4 ∧ Mb 19 = M 19) ∨ (M 8 0 0 4 = 5 ∧ A = 4 ∧ ∀ x, 0 ≤ x → x < 2356 → Mb 19 0 0 x = M 19 0 0 (x + 589)))) → EvI X E_X8_keep (51, [some (.inr (.inr (some (8, 0, 0)))), some (.inl k)], [], M2) (fun rr MM => rr = none ∧ HK (M 18 0 0) M MM ∧ Fo (fun K => K = 8 ∨ K = 19) M MM ∧ F8s 4 M MM) := by
            intro m51
            induction m51 with
            | zero => intro k M2 Mb A hm51 p1 p2 p3 p4 p5 p6 p7; exact absurd hm51 (by omega)
            | succ m51 ih51 =>
              intro k M2 Mb A hm51 p1 p2 p3 p4 p5 p6 p7
              have e : M2 8 0 0 4 = A := (congrFun (congrFun (congrFun (p5 8 (by decide)) 0) 0) 4).trans p6.1
              refine seg_ok 3 (?_ : EvI X E_X8_keep (if k < 589 then 58 else 85, [some (.inr (.inr (some (8, 0, 0)))), some (.inl k)], [], M2) _)
              refine ev_if (fun h55 => ?_) (fun h55 => ?_)
              · refine seg_ok 15 (⟨by omega, by omega, by omega, by omega, by omega, ?_⟩ : ((-2147483648 : Int) ≤ (589 * (M2 8 0 0 4)) ∧ (589 * (M2 8 0 0 4)) < 2147483648) ∧ ((-2147483648 : Int) ≤ ((589 * (M2 8 0 0 4)) + k) ∧ ((589 * (M2 8 0 0 4)) + k) < 2147483648) ∧ ((0 : Int) ≤ k ∧ k < 589) ∧ ((0 : Int) ≤ ((589 * (M2 8 0 0 4)) + k) ∧ ((589 * (M2 8 0 0 4)) + k) < 2945) ∧ ((-2147483648 : Int) ≤ (k + 1) ∧ (k + 1) < 2147483648) ∧ EvI X E_X8_keep (51, [some (.inr (.inr (some (8, 0, 0)))), some (.inl (k + 1))], [], (wri M2 19 0 0 ((589 * (M2 8 0 0 4)) + k) (M2 18 0 0 k))) _)
                refine ih51 (k + 1) (wri M2 19 0 0 ((589 * (M2 8 0 0 4)) + k) (M2 18 0 0 k)) Mb A (by omega) (by omega) (by omega) (fun x a b => by
      rw [e]
      by_cases z : x = k
      · rw [z]; exact wri_eq.trans (congrFun (congrFun (congrFun (p5 18 (by decide)) 0) 0) k)
      · exact (wri_nes (by omega)).trans (p3 x a (by omega))) (fun x h => by
      rw [e]
      exact (wri_nes (by omega)).trans (p4 x (by omega))) (fun K h => (wri_K h).trans (p5 K h)) p6 p7
              · refine seg_ok 6 (⟨by omega, ?_⟩ : ((-2147483648 : Int) ≤ ((M2 8 0 0 4) + 1) ∧ ((M2 8 0 0 4) + 1) < 2147483648) ∧ EvI X E_X8_keep (95, [some (.inr (.inr (some (8, 0, 0)))), some (.inl k)], [], (wri M2 8 0 0 4 ((M2 8 0 0 4) + 1))) _)
                refine ev_rt (r := none) rfl (?_)
                show _ ∧ HK (M 18 0 0) M (wri M2 8 0 0 4 ((M2 8 0 0 4) + 1)) ∧ Fo (fun K => K = 8 ∨ K = 19) M (wri M2 8 0 0 4 ((M2 8 0 0 4) + 1)) ∧ F8s 4 M (wri M2 8 0 0 4 ((M2 8 0 0 4) + 1))
                have r19 : ∀ x, wri M2 8 0 0 4 ((M2 8 0 0 4) + 1) 19 0 0 x = M2 19 0 0 x := fun x => congrFun (congrFun (congrFun (wri_K (by decide)) 0) 0) x
                have r8 : wri M2 8 0 0 4 ((M2 8 0 0 4) + 1) 8 0 0 4 = A + 1 := by rw [wri_eq, e]
                have r18 : ∀ x, Mb 18 0 0 x = M 18 0 0 x := fun x => congrFun (congrFun (congrFun (p7.1 18 (by decide) (by decide)) 0) 0) x
                refine ⟨rfl, ⟨fun hlt => ?_, fun heq => ?_⟩, fun K h => ?_, fun j i s h => ?_⟩
                · rcases p7.2.2 with ⟨z1, z2, z3⟩ | ⟨z1, z2, z3⟩
                  · refine ⟨by rw [r8]; omega, fun x a b => ?_, fun x a b => ?_⟩
                    · rw [r19, p4 x (by omega), z3]
                    · rw [r19, ← z2, p3 x a (by omega), r18]
                  · omega
                · rcases p7.2.2 with ⟨z1, z2, z3⟩ | ⟨z1, z2, z3⟩
                  · omega
                  · refine ⟨by rw [r8]; omega, fun x a b => ?_, fun x a b => ?_⟩
                    · rw [r19, p4 x (by omega), z3 x a b]
                    · rw [r19, show (2356 : Int) + x = 589 * A + x by omega, p3 x a (by omega), r18]
                · exact (wri_K (fun z => h (Or.inl z))).trans ((p5 K (fun z => h (Or.inr z))).trans (p7.1 K (fun z => h (Or.inl z)) (fun z => h (Or.inr z))))
                · exact (wri_nes h).trans ((congrFun (congrFun (congrFun (p5 8 (by decide)) j) i) s).trans (p7.2.1 j i s h))
          refine L51 ((589 - 0) + 1 : Int).toNat 0 (wri M1 8 0 0 4 ((M1 8 0 0 4) - 1)) (wri M1 8 0 0 4 ((M1 8 0 0 4) - 1)) 4 (by omega) (by omega) (by omega) (fun x a b => by omega) (fun _ _ => rfl) (fun _ _ => rfl) ⟨wri_eq.trans (by rw [e8]; omega), by omega, by omega⟩ ⟨fun K h8 h19 => (wri_K h8).trans (q5 K h19), fun j i s h => (wri_nes h).trans (congrFun (congrFun (congrFun (q5 8 (by decide)) j) i) s), Or.inr ⟨h5, rfl, fun x a b => (congrFun (congrFun (congrFun (wri_K (by decide)) 0) 0) x).trans (q3 x a (by omega))⟩⟩
    refine L10 ((2356 - 0) + 1 : Int).toNat 0 M (by omega) (by omega) (by omega) (fun x a b => by omega) (fun _ _ => rfl) (fun _ _ => rfl)
  · refine seg_ok 2 (?_ : EvI X E_X8_keep (51, [some (.inr (.inr (some (8, 0, 0)))), some (.inl 0)], [], M) _)
    have L51 : ∀ (m51 : Nat) (k : Int) (M2 : NM) (Mb : NM) (A : Int), 589 - k < (m51 : Int) → (0 ≤ k) → (k ≤ 589) → (∀ x, 0 ≤ x → x < k → M2 19 0 0 (589 * A + x) = Mb 18 0 0 x) → (∀ x, ¬ (589 * A ≤ x ∧ x < 589 * A + k) → M2 19 0 0 x = Mb 19 0 0 x) → (∀ K, K ≠ 19 → M2 K = Mb K) → (Mb 8 0 0 4 = A ∧ 0 ≤ A ∧ A ≤ 4) → ((∀ K, K ≠ 8 → K ≠ 19 → Mb K = M K) ∧ F8s 4 M Mb ∧ ((M 8 0 0 4 < 5 ∧ A = M 8 0 0 4 ∧ Mb 19 = M 19) ∨ (M 8 0 0 4 = 5 ∧ A = 4 ∧ ∀ x, 0 ≤ x → x < 2356 → Mb 19 0 0 x = M 19 0 0 (x + 589)))) → EvI X E_X8_keep (51, [some (.inr (.inr (some (8, 0, 0)))), some (.inl k)], [], M2) (fun rr MM => rr = none ∧ HK (M 18 0 0) M MM ∧ Fo (fun K => K = 8 ∨ K = 19) M MM ∧ F8s 4 M MM) := by
      intro m51
      induction m51 with
      | zero => intro k M2 Mb A hm51 p1 p2 p3 p4 p5 p6 p7; exact absurd hm51 (by omega)
      | succ m51 ih51 =>
        intro k M2 Mb A hm51 p1 p2 p3 p4 p5 p6 p7
        have e : M2 8 0 0 4 = A := (congrFun (congrFun (congrFun (p5 8 (by decide)) 0) 0) 4).trans p6.1
        refine seg_ok 3 (?_ : EvI X E_X8_keep (if k < 589 then 58 else 85, [some (.inr (.inr (some (8, 0, 0)))), some (.inl k)], [], M2) _)
        refine ev_if (fun h55 => ?_) (fun h55 => ?_)
        · refine seg_ok 15 (⟨by omega, by omega, by omega, by omega, by omega, ?_⟩ : ((-2147483648 : Int) ≤ (589 * (M2 8 0 0 4)) ∧ (589 * (M2 8 0 0 4)) < 2147483648) ∧ ((-2147483648 : Int) ≤ ((589 * (M2 8 0 0 4)) + k) ∧ ((589 * (M2 8 0 0 4)) + k) < 2147483648) ∧ ((0 : Int) ≤ k ∧ k < 589) ∧ ((0 : Int) ≤ ((589 * (M2 8 0 0 4)) + k) ∧ ((589 * (M2 8 0 0 4)) + k) < 2945) ∧ ((-2147483648 : Int) ≤ (k + 1) ∧ (k + 1) < 2147483648) ∧ EvI X E_X8_keep (51, [some (.inr (.inr (some (8, 0, 0)))), some (.inl (k + 1))], [], (wri M2 19 0 0 ((589 * (M2 8 0 0 4)) + k) (M2 18 0 0 k))) _)
          refine ih51 (k + 1) (wri M2 19 0 0 ((589 * (M2 8 0 0 4)) + k) (M2 18 0 0 k)) Mb A (by omega) (by omega) (by omega) (fun x a b => by
      rw [e]
      by_cases z : x = k
      · rw [z]; exact wri_eq.trans (congrFun (congrFun (congrFun (p5 18 (by decide)) 0) 0) k)
      · exact (wri_nes (by omega)).trans (p3 x a (by omega))) (fun x h => by
      rw [e]
      exact (wri_nes (by omega)).trans (p4 x (by omega))) (fun K h => (wri_K h).trans (p5 K h)) p6 p7
        · refine seg_ok 6 (⟨by omega, ?_⟩ : ((-2147483648 : Int) ≤ ((M2 8 0 0 4) + 1) ∧ ((M2 8 0 0 4) + 1) < 2147483648) ∧ EvI X E_X8_keep (95, [some (.inr (.inr (some (8, 0, 0)))), some (.inl k)], [], (wri M2 8 0 0 4 ((M2 8 0 0 4) + 1))) _)
          refine ev_rt (r := none) rfl (?_)
          show _ ∧ HK (M 18 0 0) M (wri M2 8 0 0 4 ((M2 8 0 0 4) + 1)) ∧ Fo (fun K => K = 8 ∨ K = 19) M (wri M2 8 0 0 4 ((M2 8 0 0 4) + 1)) ∧ F8s 4 M (wri M2 8 0 0 4 ((M2 8 0 0 4) + 1))
          have r19 : ∀ x, wri M2 8 0 0 4 ((M2 8 0 0 4) + 1) 19 0 0 x = M2 19 0 0 x := fun x => congrFun (congrFun (congrFun (wri_K (by decide)) 0) 0) x
          have r8 : wri M2 8 0 0 4 ((M2 8 0 0 4) + 1) 8 0 0 4 = A + 1 := by rw [wri_eq, e]
          have r18 : ∀ x, Mb 18 0 0 x = M 18 0 0 x := fun x => congrFun (congrFun (congrFun (p7.1 18 (by decide) (by decide)) 0) 0) x
          refine ⟨rfl, ⟨fun hlt => ?_, fun heq => ?_⟩, fun K h => ?_, fun j i s h => ?_⟩
          · rcases p7.2.2 with ⟨z1, z2, z3⟩ | ⟨z1, z2, z3⟩
            · refine ⟨by rw [r8]; omega, fun x a b => ?_, fun x a b => ?_⟩
              · rw [r19, p4 x (by omega), z3]
              · rw [r19, ← z2, p3 x a (by omega), r18]
            · omega
          · rcases p7.2.2 with ⟨z1, z2, z3⟩ | ⟨z1, z2, z3⟩
            · omega
            · refine ⟨by rw [r8]; omega, fun x a b => ?_, fun x a b => ?_⟩
              · rw [r19, p4 x (by omega), z3 x a b]
              · rw [r19, show (2356 : Int) + x = 589 * A + x by omega, p3 x a (by omega), r18]
          · exact (wri_K (fun z => h (Or.inl z))).trans ((p5 K (fun z => h (Or.inr z))).trans (p7.1 K (fun z => h (Or.inl z)) (fun z => h (Or.inr z))))
          · exact (wri_nes h).trans ((congrFun (congrFun (congrFun (p5 8 (by decide)) j) i) s).trans (p7.2.1 j i s h))
    refine L51 ((589 - 0) + 1 : Int).toNat 0 M M (M 8 0 0 4) (by omega) (by omega) (by omega) (fun x a b => by omega) (fun _ _ => rfl) (fun _ _ => rfl) ⟨rfl, by omega, by omega⟩ ⟨fun _ _ _ => rfl, fun _ _ _ _ => rfl, Or.inl ⟨by omega, rfl, rfl⟩⟩
end
