/-! 16: the class: groups, upgrades, counts, figures -/
section
variable {X : XI}
theorem up_iff {S : Sl} {f u v b : Int} (q4 : v = cif (u = -9) (rk S f) (rk S u)) (q5 : u = -9 ∨ rk S f < rk S u) : v < rk S b ↔ rk S f < rk S b ∧ (u = -9 ∨ rk S u < rk S b) := by
  by_cases h : u = -9
  · rw [cif_t h] at q4; rw [q4]; exact ⟨fun z => ⟨z, Or.inl h⟩, fun z => z.1⟩
  · rw [cif_f h] at q4; rw [q4]
    rcases q5 with q5 | q5
    · exact absurd q5 h
    · exact ⟨fun z => ⟨by omega, Or.inr z⟩, fun z => z.2.elim (fun w => absurd w h) id⟩
theorem d_greatestGroup {m : Int} {M : NM} {j : Int} (hI : Inv m (sl M j)) {b : Int} (h1 : 0 ≤ b ∧ b < M 1 j 0 3) : HT X z_X1_greatestGroup [.inr (.inr (some (1, j, 0))), .inl b] M (fun rr MM => rr = some (.inl (gN (sl M j) b 10)) ∧ MM = M) := by
  have hi := hI.1
  simp only [Iv0, sl] at hi
  refine ht_of (e := E_X1_greatestGroup) rfl (?_ : EvI X E_X1_greatestGroup (0, [some (.inr (.inr (some (1, j, 0)))), some (.inl b), none], [], M) _)
  refine seg_ok 2 (?_ : EvI X E_X1_greatestGroup (3, [some (.inr (.inr (some (1, j, 0)))), some (.inl b), some (.inl 10)], [], M) _)
  have L3 : ∀ (m3 : Nat) (n : Int), n < (m3 : Int) → (0 ≤ n) → (n ≤ 10) → (gN (sl M j) b 10 = gN (sl M j) b n.toNat) → EvI X E_X1_greatestGroup (3, [some (.inr (.inr (some (1, j, 0)))), some (.inl b), some (.inl n)], [], M) (fun rr MM => rr = some (.inl (gN (sl M j) b 10)) ∧ MM = M) := by
    intro m3
    induction m3 with
    | zero => intro n hm3 q1 q2 q3; exact absurd hm3 (by omega)
    | succ m3 ih3 =>
      intro n hm3 q1 q2 q3
      refine seg_ok 2 (?_ : EvI X E_X1_greatestGroup (if 0 < n then 7 else 26, [some (.inr (.inr (some (1, j, 0)))), some (.inl b), some (.inl n)], [], M) _)
      refine ev_if (fun h4 => ?_) (fun h4 => ?_)
      · refine seg_ok 3 (?_ : EvI X E_X1_greatestGroup (10, [some (.inr (.inr (some (1, j, 0)))), some (.inl b), some (.inl n)], [.inl n, .inl b, .inr (.inr (some (1, j, 0)))], M) _)
        refine ev_clp (v := .inl (pl (sl M j) b n)) (z := z_X1_findPlace) (as := [.inr (.inr (some (1, j, 0))), .inl b, .inl n]) (rest := []) rfl (d_findPlace (Iw_of hI) (by omega) (by omega)) (?_ : EvI X E_X1_greatestGroup (13, [some (.inr (.inr (some (1, j, 0)))), some (.inl b), some (.inl n)], [.inl (pl (sl M j) b n)], M) _)
        refine seg_ok 2 (?_ : EvI X E_X1_greatestGroup (if (pl (sl M j) b n) = (-9) then 20 else 18, [some (.inr (.inr (some (1, j, 0)))), some (.inl b), some (.inl n)], [], M) _)
        refine ev_if (fun h15 => ?_) (fun h15 => ?_)
        · refine seg_ok 2 (⟨by omega, ?_⟩ : ((-2147483648 : Int) ≤ (n + (-1)) ∧ (n + (-1)) < 2147483648) ∧ EvI X E_X1_greatestGroup (3, [some (.inr (.inr (some (1, j, 0)))), some (.inl b), some (.inl (n + (-1)))], [], M) _)
          refine ih3 (n + (-1)) (by omega) (by omega) (by omega) (by rw [q3, gN_step (by omega), cif_f (fun z => z h15)]; rfl)
        · refine seg_ok 1 (?_ : EvI X E_X1_greatestGroup (19, [some (.inr (.inr (some (1, j, 0)))), some (.inl b), some (.inl n)], [.inl n], M) _)
          refine ev_rt (r := some (.inl n)) rfl (?_)
          exact ⟨rint (by rw [q3, gN_step (by omega)]; exact (cif_t h15).symm), rfl⟩
      · refine seg_ok 1 (?_ : EvI X E_X1_greatestGroup (27, [some (.inr (.inr (some (1, j, 0)))), some (.inl b), some (.inl n)], [.inl 0], M) _)
        refine ev_rt (r := some (.inl 0)) rfl (?_)
        exact ⟨rint (by rw [q3, show n.toNat = 0 by omega]; rfl), rfl⟩
  refine L3 ((10) + 1 : Int).toNat 10 (by omega) (by omega) (by omega) rfl

theorem d_upgradeFor {m : Int} {M : NM} {j : Int} (hI : Inv m (sl M j)) {f n : Int} (h1 : 0 ≤ f ∧ f < M 1 j 0 3) (h2 : 1 ≤ n ∧ n ≤ 10) : HT X z_X1_upgradeFor [.inr (.inr (some (1, j, 0))), .inl f, .inl n] M (fun rr MM => rr = some (.inl (upF (sl M j) f n (M 1 j 0 3).toNat)) ∧ MM = M) := by
  have hi := hI.1
  simp only [Iv0, sl] at hi
  refine ht_of (e := E_X1_upgradeFor) rfl (?_ : EvI X E_X1_upgradeFor (0, [some (.inr (.inr (some (1, j, 0)))), some (.inl f), some (.inl n), none, none, none, none], [], M) _)
  refine seg_ok 4 (?_ : EvI X E_X1_upgradeFor (5, [some (.inr (.inr (some (1, j, 0)))), some (.inl f), some (.inl n), some (.inl (-9)), none, none, none], [.inl f, .inr (.inr (some (1, j, 0)))], M) _)
  refine ev_clp (v := .inl (rk (sl M j) f)) (z := z_X1_rankOf) (as := [.inr (.inr (some (1, j, 0))), .inl f]) (rest := []) rfl (d_rankOf hI (by omega)) (?_ : EvI X E_X1_upgradeFor (8, [some (.inr (.inr (some (1, j, 0)))), some (.inl f), some (.inl n), some (.inl (-9)), none, none, none], [.inl (rk (sl M j) f)], M) _)
  refine seg_ok 3 (?_ : EvI X E_X1_upgradeFor (13, [some (.inr (.inr (some (1, j, 0)))), some (.inl f), some (.inl n), some (.inl (-9)), some (.inl (rk (sl M j) f)), some (.inl 0), none], [], M) _)
  have L13 : ∀ (m13 : Nat) (u v b : Int) (d13_6 : Option U), M 1 j 0 3 - b < (m13 : Int) → (0 ≤ b) → (b ≤ M 1 j 0 3) → (u = upF (sl M j) f n b.toNat) → (v = cif (u = -9) (rk (sl M j) f) (rk (sl M j) u)) → (u = -9 ∨ rk (sl M j) f < rk (sl M j) u) → EvI X E_X1_upgradeFor (13, [some (.inr (.inr (some (1, j, 0)))), some (.inl f), some (.inl n), some (.inl u), some (.inl v), some (.inl b), d13_6], [], M) (fun rr MM => rr = some (.inl (upF (sl M j) f n (M 1 j 0 3).toNat)) ∧ MM = M) := by
    intro m13
    induction m13 with
    | zero => intro u v b d13_6 hm13 q1 q2 q3 q4 q5; exact absurd hm13 (by omega)
    | succ m13 ih13 =>
      intro u v b d13_6 hm13 q1 q2 q3 q4 q5
      refine seg_ok 4 (?_ : EvI X E_X1_upgradeFor (if b < (M 1 j 0 3) then 22 else 62, [some (.inr (.inr (some (1, j, 0)))), some (.inl f), some (.inl n), some (.inl u), some (.inl v), some (.inl b), d13_6], [], M) _)
      refine ev_if (fun h19 => ?_) (fun h19 => ?_)
      · refine seg_ok 2 (?_ : EvI X E_X1_upgradeFor (25, [some (.inr (.inr (some (1, j, 0)))), some (.inl f), some (.inl n), some (.inl u), some (.inl v), some (.inl b), d13_6], [.inl b, .inr (.inr (some (1, j, 0)))], M) _)
        refine ev_clp (v := .inl (rk (sl M j) b)) (z := z_X1_rankOf) (as := [.inr (.inr (some (1, j, 0))), .inl b]) (rest := []) rfl (d_rankOf hI (by omega)) (?_ : EvI X E_X1_upgradeFor (28, [some (.inr (.inr (some (1, j, 0)))), some (.inl f), some (.inl n), some (.inl u), some (.inl v), some (.inl b), d13_6], [.inl (rk (sl M j) b)], M) _)
        refine seg_ok 4 (?_ : EvI X E_X1_upgradeFor (if v < (rk (sl M j) b) then 37 else 56, [some (.inr (.inr (some (1, j, 0)))), some (.inl f), some (.inl n), some (.inl u), some (.inl v), some (.inl b), some (.inl (rk (sl M j) b))], [], M) _)
        refine ev_if (fun h34 => ?_) (fun h34 => ?_)
        · refine seg_ok 3 (?_ : EvI X E_X1_upgradeFor (41, [some (.inr (.inr (some (1, j, 0)))), some (.inl f), some (.inl n), some (.inl u), some (.inl v), some (.inl b), some (.inl (rk (sl M j) b))], [.inl n, .inl b, .inr (.inr (some (1, j, 0)))], M) _)
          refine ev_clp (v := .inl (pl (sl M j) b n)) (z := z_X1_findPlace) (as := [.inr (.inr (some (1, j, 0))), .inl b, .inl n]) (rest := []) rfl (d_findPlace (Iw_of hI) (by omega) (by omega)) (?_ : EvI X E_X1_upgradeFor (44, [some (.inr (.inr (some (1, j, 0)))), some (.inl f), some (.inl n), some (.inl u), some (.inl v), some (.inl b), some (.inl (rk (sl M j) b))], [.inl (pl (sl M j) b n)], M) _)
          refine seg_ok 2 (?_ : EvI X E_X1_upgradeFor (if (pl (sl M j) b n) = (-9) then 56 else 49, [some (.inr (.inr (some (1, j, 0)))), some (.inl f), some (.inl n), some (.inl u), some (.inl v), some (.inl b), some (.inl (rk (sl M j) b))], [], M) _)
          refine ev_if (fun h46 => ?_) (fun h46 => ?_)
          · refine seg_ok 2 (⟨by omega, ?_⟩ : ((-2147483648 : Int) ≤ (b + 1) ∧ (b + 1) < 2147483648) ∧ EvI X E_X1_upgradeFor (13, [some (.inr (.inr (some (1, j, 0)))), some (.inl f), some (.inl n), some (.inl u), some (.inl v), some (.inl (b + 1)), some (.inl (rk (sl M j) b))], [], M) _)
            refine ih13 u v (b + 1) (some (.inl (rk (sl M j) b))) (by omega) (by omega) (by omega) (by rw [upF_step q1, cA_1 (fun z => z.2 h46)]; exact q3) q4 q5
          · refine seg_ok 6 (⟨by omega, ?_⟩ : ((-2147483648 : Int) ≤ (b + 1) ∧ (b + 1) < 2147483648) ∧ EvI X E_X1_upgradeFor (13, [some (.inr (.inr (some (1, j, 0)))), some (.inl f), some (.inl n), some (.inl b), some (.inl (rk (sl M j) b)), some (.inl (b + 1)), some (.inl (rk (sl M j) b))], [], M) _)
            refine ih13 b (rk (sl M j) b) (b + 1) (some (.inl (rk (sl M j) b))) (by omega) (by omega) (by omega) (by rw [upF_step q1]; exact (cA_t ⟨((up_iff (b := b) q4 q5).mp h34).1, h46⟩ (by rw [← q3]; exact ((up_iff (b := b) q4 q5).mp h34).2)).symm) (by rw [cif_f (by omega)]) (Or.inr ((up_iff (b := b) q4 q5).mp h34).1)
        · refine seg_ok 2 (⟨by omega, ?_⟩ : ((-2147483648 : Int) ≤ (b + 1) ∧ (b + 1) < 2147483648) ∧ EvI X E_X1_upgradeFor (13, [some (.inr (.inr (some (1, j, 0)))), some (.inl f), some (.inl n), some (.inl u), some (.inl v), some (.inl (b + 1)), some (.inl (rk (sl M j) b))], [], M) _)
          refine ih13 u v (b + 1) (some (.inl (rk (sl M j) b))) (by omega) (by omega) (by omega) (by rw [upF_step q1, cif_f (fun z => h34 ((up_iff (b := b) q4 q5).mpr ⟨z.1.1, by rw [q3]; exact z.2⟩))]; exact q3) q4 q5
      · refine seg_ok 1 (?_ : EvI X E_X1_upgradeFor (63, [some (.inr (.inr (some (1, j, 0)))), some (.inl f), some (.inl n), some (.inl u), some (.inl v), some (.inl b), d13_6], [.inl u], M) _)
        refine ev_rt (r := some (.inl u)) rfl (?_)
        exact ⟨rint (by rw [q3, show b = M 1 j 0 3 by omega]), rfl⟩
  refine L13 ((M 1 j 0 3 - 0) + 1 : Int).toNat (-9) (rk (sl M j) f) 0 none (by omega) (by omega) (by omega) rfl (cif_t rfl).symm (Or.inl rfl)
theorem d_chairFigure {m : Int} {M : NM} {j : Int} (hI : Inv m (sl M j)) {c : Int} : HT X z_X1_chairFigure [.inr (.inr (some (1, j, 0))), .inl c] M (fun rr MM => rr = some (.inl (chS (sl M j) c)) ∧ MM = M) := by
  have hi := hI.1
  simp only [Iv0, sl] at hi
  refine ht_of (e := E_X1_chairFigure) rfl (?_ : EvI X E_X1_chairFigure (0, [some (.inr (.inr (some (1, j, 0)))), some (.inl c), none], [], M) _)
  refine seg_ok 2 (?_ : EvI X E_X1_chairFigure (2, [some (.inr (.inr (some (1, j, 0)))), some (.inl c), none], [.inl c, .inr (.inr (some (1, j, 0)))], M) _)
  refine ev_clp (v := .inl (bi (isCh (sl M j) c))) (z := z_X1_isChair) (as := [.inr (.inr (some (1, j, 0))), .inl c]) (rest := []) rfl (d_isChair hI) (?_ : EvI X E_X1_chairFigure (5, [some (.inr (.inr (some (1, j, 0)))), some (.inl c), none], [.inl (bi (isCh (sl M j) c))], M) _)
  refine seg_ok 1 (?_ : EvI X E_X1_chairFigure (if (bi (isCh (sl M j) c)) = 0 then 8 else 10, [some (.inr (.inr (some (1, j, 0)))), some (.inl c), none], [], M) _)
  refine ev_ifb (fun h5 => ?_) (fun h5 => ?_)
  · refine seg_ok 1 (?_ : EvI X E_X1_chairFigure (9, [some (.inr (.inr (some (1, j, 0)))), some (.inl c), none], [.inl (-1)], M) _)
    refine ev_rt (r := some (.inl (-1))) rfl (?_)
    exact ⟨rint (by unfold chS; rw [cif_f h5]), rfl⟩
  · have k5 := isCh_r hI h5
    have k6 := hI.2.2.1 c k5.1 k5.2.1
    simp only [sl] at k6
    refine seg_ok 8 (⟨by omega, ?_⟩ : ((0 : Int) ≤ c ∧ c < 600) ∧ EvI X E_X1_chairFigure (if (andI (M 14 j 0 c) (M 1 j 0 5)) = 0 then 28 else 24, [some (.inr (.inr (some (1, j, 0)))), some (.inl c), none], [], M) _)
    refine ev_if (fun h21 => ?_) (fun h21 => ?_)
    · refine seg_ok 8 (⟨by omega, ?_⟩ : ((0 : Int) ≤ c ∧ c < 600) ∧ EvI X E_X1_chairFigure (52, [some (.inr (.inr (some (1, j, 0)))), some (.inl c), some (.inl 0)], [.inl (M 13 j 0 c)], M) _)
      refine ev_rt (r := some (.inl (M 13 j 0 c))) rfl (?_)
      exact ⟨rint (by unfold chS; rw [cif_t h5, cif_f (show ¬ kl (sl M j) c from fun z => z h21), Int.add_zero]), rfl⟩
    · refine seg_ok 12 (⟨by omega, by omega, ?_⟩ : ((0 : Int) ≤ c ∧ c < 600) ∧ ((-2147483648 : Int) ≤ ((M 13 j 0 c) + 10) ∧ ((M 13 j 0 c) + 10) < 2147483648) ∧ EvI X E_X1_chairFigure (52, [some (.inr (.inr (some (1, j, 0)))), some (.inl c), some (.inl 1)], [.inl ((M 13 j 0 c) + 10)], M) _)
      refine ev_rt (r := some (.inl ((M 13 j 0 c) + 10))) rfl (?_)
      exact ⟨rint (by unfold chS; rw [cif_t h5, cif_t (show kl (sl M j) c from h21)]), rfl⟩
theorem d_ticketAt_t {M : NM} {j b : Int} (h : 0 ≤ b ∧ b < M 5 j 0 4) (h6 : M 5 j 0 4 ≤ 20) : HT X z_X5_ticketAt [.inr (.inr (some (5, j, 0))), .inl b] M (fun rr MM => rr = some (.inr (.inr (some (6, j, b)))) ∧ MM = M) := by
  refine ht_of (e := E_X5_ticketAt) rfl (?_ : EvI X E_X5_ticketAt (0, [some (.inr (.inr (some (5, j, 0)))), some (.inl b)], [], M) _)
  refine seg_ok 2 (?_ : EvI X E_X5_ticketAt (if b < 0 then 21 else 4, [some (.inr (.inr (some (5, j, 0)))), some (.inl b)], [], M) _)
  refine ev_if (fun h1 => ?_) (fun h1 => ?_)
  · exfalso
    omega
  · refine seg_ok 4 (?_ : EvI X E_X5_ticketAt (if b < (M 5 j 0 4) then 12 else 21, [some (.inr (.inr (some (5, j, 0)))), some (.inl b)], [], M) _)
    refine ev_if (fun h9 => ?_) (fun h9 => ?_)
    · refine seg_ok 5 (⟨by omega, ?_⟩ : ((0 : Int) ≤ b ∧ b < 20) ∧ EvI X E_X5_ticketAt (22, [some (.inr (.inr (some (5, j, 0)))), some (.inl b)], [.inr (.inr (some (6, j, b)))], M) _)
      refine ev_rt (r := some (.inr (.inr (some (6, j, b))))) rfl (?_)
      exact ⟨rfl, rfl⟩
    · exfalso
      omega
theorem d_ticketAt_f {M : NM} {j b : Int} (h : ¬ (0 ≤ b ∧ b < M 5 j 0 4)) : HT X z_X5_ticketAt [.inr (.inr (some (5, j, 0))), .inl b] M (fun rr MM => rr = some (.inr (.inr none)) ∧ MM = M) := by
  refine ht_of (e := E_X5_ticketAt) rfl (?_ : EvI X E_X5_ticketAt (0, [some (.inr (.inr (some (5, j, 0)))), some (.inl b)], [], M) _)
  refine seg_ok 2 (?_ : EvI X E_X5_ticketAt (if b < 0 then 21 else 4, [some (.inr (.inr (some (5, j, 0)))), some (.inl b)], [], M) _)
  refine ev_if (fun h1 => ?_) (fun h1 => ?_)
  · refine seg_ok 1 (?_ : EvI X E_X5_ticketAt (22, [some (.inr (.inr (some (5, j, 0)))), some (.inl b)], [.inr (.inr none)], M) _)
    refine ev_rt (r := some (.inr (.inr none))) rfl (?_)
    exact ⟨rfl, rfl⟩
  · refine seg_ok 4 (?_ : EvI X E_X5_ticketAt (if b < (M 5 j 0 4) then 12 else 21, [some (.inr (.inr (some (5, j, 0)))), some (.inl b)], [], M) _)
    refine ev_if (fun h9 => ?_) (fun h9 => ?_)
    · exfalso
      omega
    · refine seg_ok 1 (?_ : EvI X E_X5_ticketAt (22, [some (.inr (.inr (some (5, j, 0)))), some (.inl b)], [.inr (.inr none)], M) _)
      refine ev_rt (r := some (.inr (.inr none))) rfl (?_)
      exact ⟨rfl, rfl⟩
theorem d_holdAt_t {M : NM} {j b : Int} (h : 0 ≤ b ∧ b < M 5 j 0 3) (h6 : M 5 j 0 3 ≤ 20) : HT X z_X5_holdAt [.inr (.inr (some (5, j, 0))), .inl b] M (fun rr MM => rr = some (.inr (.inr (some (3, j, b)))) ∧ MM = M) := by
  refine ht_of (e := E_X5_holdAt) rfl (?_ : EvI X E_X5_holdAt (0, [some (.inr (.inr (some (5, j, 0)))), some (.inl b)], [], M) _)
  refine seg_ok 2 (?_ : EvI X E_X5_holdAt (if b < 0 then 21 else 4, [some (.inr (.inr (some (5, j, 0)))), some (.inl b)], [], M) _)
  refine ev_if (fun h1 => ?_) (fun h1 => ?_)
  · exfalso
    omega
  · refine seg_ok 4 (?_ : EvI X E_X5_holdAt (if b < (M 5 j 0 3) then 12 else 21, [some (.inr (.inr (some (5, j, 0)))), some (.inl b)], [], M) _)
    refine ev_if (fun h9 => ?_) (fun h9 => ?_)
    · refine seg_ok 5 (⟨by omega, ?_⟩ : ((0 : Int) ≤ b ∧ b < 20) ∧ EvI X E_X5_holdAt (22, [some (.inr (.inr (some (5, j, 0)))), some (.inl b)], [.inr (.inr (some (3, j, b)))], M) _)
      refine ev_rt (r := some (.inr (.inr (some (3, j, b))))) rfl (?_)
      exact ⟨rfl, rfl⟩
    · exfalso
      omega
theorem d_holdAt_f {M : NM} {j b : Int} (h : ¬ (0 ≤ b ∧ b < M 5 j 0 3)) : HT X z_X5_holdAt [.inr (.inr (some (5, j, 0))), .inl b] M (fun rr MM => rr = some (.inr (.inr none)) ∧ MM = M) := by
  refine ht_of (e := E_X5_holdAt) rfl (?_ : EvI X E_X5_holdAt (0, [some (.inr (.inr (some (5, j, 0)))), some (.inl b)], [], M) _)
  refine seg_ok 2 (?_ : EvI X E_X5_holdAt (if b < 0 then 21 else 4, [some (.inr (.inr (some (5, j, 0)))), some (.inl b)], [], M) _)
  refine ev_if (fun h1 => ?_) (fun h1 => ?_)
  · refine seg_ok 1 (?_ : EvI X E_X5_holdAt (22, [some (.inr (.inr (some (5, j, 0)))), some (.inl b)], [.inr (.inr none)], M) _)
    refine ev_rt (r := some (.inr (.inr none))) rfl (?_)
    exact ⟨rfl, rfl⟩
  · refine seg_ok 4 (?_ : EvI X E_X5_holdAt (if b < (M 5 j 0 3) then 12 else 21, [some (.inr (.inr (some (5, j, 0)))), some (.inl b)], [], M) _)
    refine ev_if (fun h9 => ?_) (fun h9 => ?_)
    · exfalso
      omega
    · refine seg_ok 1 (?_ : EvI X E_X5_holdAt (22, [some (.inr (.inr (some (5, j, 0)))), some (.inl b)], [.inr (.inr none)], M) _)
      refine ev_rt (r := some (.inr (.inr none))) rfl (?_)
      exact ⟨rfl, rfl⟩
theorem d_isWait {M : NM} {n : Int} : HT X z_X5_isWait [.inl n] M (fun rr MM => rr = some (.inl (bi (1 ≤ n ∧ n ≤ 999))) ∧ MM = M) := by
  refine ht_of (e := E_X5_isWait) rfl (?_ : EvI X E_X5_isWait (0, [some (.inl n)], [], M) _)
  refine seg_ok 3 (?_ : EvI X E_X5_isWait (if n < 1 then 16 else 5, [some (.inl n)], [], M) _)
  refine ev_if (fun h2 => ?_) (fun h2 => ?_)
  · refine seg_ok 1 (?_ : EvI X E_X5_isWait (17, [some (.inl n)], [.inl 0], M) _)
    refine ev_rt (r := some (.inl 0)) rfl (⟨by decide, ?_⟩)
    exact ⟨rint (is0 (by omega)), rfl⟩
  · refine seg_ok 3 (?_ : EvI X E_X5_isWait (if 999 < n then 16 else 12, [some (.inl n)], [], M) _)
    refine ev_if (fun h9 => ?_) (fun h9 => ?_)
    · refine seg_ok 1 (?_ : EvI X E_X5_isWait (17, [some (.inl n)], [.inl 0], M) _)
      refine ev_rt (r := some (.inl 0)) rfl (⟨by decide, ?_⟩)
      exact ⟨rint (is0 (by omega)), rfl⟩
    · refine seg_ok 2 (?_ : EvI X E_X5_isWait (17, [some (.inl n)], [.inl 1], M) _)
      refine ev_rt (r := some (.inl 1)) rfl (⟨by decide, ?_⟩)
      exact ⟨rint (is1 (by omega)), rfl⟩
set_option maxRecDepth 2070 in
theorem d_nextMover {m : Int} {M : NM} {j : Int} (hI : Inv m (sl M j)) {b : Int} (h1 : 0 ≤ b ∧ b < M 1 j 0 3) : HT X z_X5_nextMover [.inr (.inr (some (5, j, 0))), .inl b] M (fun rr MM => rr = some (.inl (ff (fun t => M 6 j t 0 = 0 ∧ M 6 j t 2 ≤ gN (sl M j) b 10 ∧ rk (sl M j) (M 6 j t 1 / 100) < rk (sl M j) b) (M 5 j 0 4).toNat 0)) ∧ MM = M) := by
  have hi := hI.1
  simp only [Iv0, sl] at hi
  refine ht_of (e := E_X5_nextMover) rfl (?_ : EvI X E_X5_nextMover (0, [some (.inr (.inr (some (5, j, 0)))), some (.inl b), none, none, none, none, none], [], M) _)
  refine seg_ok 3 (?_ : EvI X E_X5_nextMover (5, [some (.inr (.inr (some (5, j, 0)))), some (.inl b), none, none, none, none, none], [.inl b, .inr (.inr (some (1, j, 0)))], M) _)
  refine ev_clp (v := .inl (rk (sl M j) b)) (z := z_X1_rankOf) (as := [.inr (.inr (some (1, j, 0))), .inl b]) (rest := []) rfl (d_rankOf hI (by omega)) (?_ : EvI X E_X5_nextMover (8, [some (.inr (.inr (some (5, j, 0)))), some (.inl b), none, none, none, none, none], [.inl (rk (sl M j) b)], M) _)
  refine seg_ok 4 (?_ : EvI X E_X5_nextMover (14, [some (.inr (.inr (some (5, j, 0)))), some (.inl b), some (.inl (rk (sl M j) b)), none, none, none, none], [.inl b, .inr (.inr (some (1, j, 0)))], M) _)
  refine ev_clp (v := .inl (gN (sl M j) b 10)) (z := z_X1_greatestGroup) (as := [.inr (.inr (some (1, j, 0))), .inl b]) (rest := []) rfl (d_greatestGroup hI (by omega)) (?_ : EvI X E_X5_nextMover (17, [some (.inr (.inr (some (5, j, 0)))), some (.inl b), some (.inl (rk (sl M j) b)), none, none, none, none], [.inl (gN (sl M j) b 10)], M) _)
  refine seg_ok 3 (?_ : EvI X E_X5_nextMover (21, [some (.inr (.inr (some (5, j, 0)))), some (.inl b), some (.inl (rk (sl M j) b)), some (.inl (gN (sl M j) b 10)), some (.inl 0), none, none], [], M) _)
  have L21 : ∀ (m21 : Nat) (t : Int) (d21_5 d21_6 : Option U), M 5 j 0 4 - t < (m21 : Int) → (0 ≤ t) → (t ≤ M 5 j 0 4) → (ff (fun t => M 6 j t 0 = 0 ∧ M 6 j t 2 ≤ gN (sl M j) b 10 ∧ rk (sl M j) (M 6 j t 1 / 100) < rk (sl M j) b) (M 5 j 0 4).toNat 0 = ff (fun t => M 6 j t 0 = 0 ∧ M 6 j t 2 ≤ gN (sl M j) b 10 ∧ rk (sl M j) (M 6 j t 1 / 100) < rk (sl M j) b) (M 5 j 0 4 - t).toNat t) → EvI X E_X5_nextMover (21, [some (.inr (.inr (some (5, j, 0)))), some (.inl b), some (.inl (rk (sl M j) b)), some (.inl (gN (sl M j) b 10)), some (.inl t), d21_5, d21_6], [], M) (fun rr MM => rr = some (.inl (ff (fun t => M 6 j t 0 = 0 ∧ M 6 j t 2 ≤ gN (sl M j) b 10 ∧ rk (sl M j) (M 6 j t 1 / 100) < rk (sl M j) b) (M 5 j 0 4).toNat 0)) ∧ MM = M) := by
    intro m21
    induction m21 with
    | zero => intro t d21_5 d21_6 hm21 q1 q2 q3; exact absurd hm21 (by omega)
    | succ m21 ih21 =>
      intro t d21_5 d21_6 hm21 q1 q2 q3
      refine seg_ok 4 (?_ : EvI X E_X5_nextMover (if t < (M 5 j 0 4) then 30 else 96, [some (.inr (.inr (some (5, j, 0)))), some (.inl b), some (.inl (rk (sl M j) b)), some (.inl (gN (sl M j) b 10)), some (.inl t), d21_5, d21_6], [], M) _)
      refine ev_if (fun h27 => ?_) (fun h27 => ?_)
      · have ht := hI.2.2.2.2.1 t q1 h27
        simp only [HO, sl] at ht
        obtain ⟨⟨hf0, hf1, hf2, hf3, -, -⟩, -⟩ := ht
        refine seg_ok 8 (⟨by omega, ?_⟩ : ((0 : Int) ≤ t ∧ t < 20) ∧ EvI X E_X5_nextMover (if (M 6 j t 0) = 0 then 47 else 60, [some (.inr (.inr (some (5, j, 0)))), some (.inl b), some (.inl (rk (sl M j) b)), some (.inl (gN (sl M j) b 10)), some (.inl t), some (.inr (.inr (some (6, j, t)))), d21_6], [], M) _)
        refine ev_if (fun h44 => ?_) (fun h44 => ?_)
        · refine seg_ok 4 (?_ : EvI X E_X5_nextMover (if (gN (sl M j) b 10) < (M 6 j t 2) then 60 else 56, [some (.inr (.inr (some (5, j, 0)))), some (.inl b), some (.inl (rk (sl M j) b)), some (.inl (gN (sl M j) b 10)), some (.inl t), some (.inr (.inr (some (6, j, t)))), d21_6], [], M) _)
          refine ev_if (fun h53 => ?_) (fun h53 => ?_)
          · refine seg_ok 6 (⟨by omega, ?_⟩ : ((-2147483648 : Int) ≤ (t + 1) ∧ (t + 1) < 2147483648) ∧ EvI X E_X5_nextMover (21, [some (.inr (.inr (some (5, j, 0)))), some (.inl b), some (.inl (rk (sl M j) b)), some (.inl (gN (sl M j) b 10)), some (.inl (t + 1)), some (.inr (.inr (some (6, j, t)))), some (.inl 0)], [], M) _)
            refine ih21 (t + 1) (some (.inr (.inr (some (6, j, t))))) (some (.inl 0)) (by omega) (by omega) (by omega) (q3.trans (by rw [ff_step (show t < M 5 j 0 4 by omega)]; exact cif_f (fun z => absurd z.2.1 (by omega))))
          · refine seg_ok 11 (⟨by omega, ?_⟩ : ((0 : Int) ≤ (M 6 j t 1) ∧ (0 : Int) < 100) ∧ EvI X E_X5_nextMover (80, [some (.inr (.inr (some (5, j, 0)))), some (.inl b), some (.inl (rk (sl M j) b)), some (.inl (gN (sl M j) b 10)), some (.inl t), some (.inr (.inr (some (6, j, t)))), some (.inl 1)], [.inl ((M 6 j t 1) / 100), .inr (.inr (some (1, j, 0)))], M) _)
            refine ev_clp (v := .inl (rk (sl M j) ((M 6 j t 1) / 100))) (z := z_X1_rankOf) (as := [.inr (.inr (some (1, j, 0))), .inl ((M 6 j t 1) / 100)]) (rest := []) rfl (d_rankOf hI (by omega)) (?_ : EvI X E_X5_nextMover (83, [some (.inr (.inr (some (5, j, 0)))), some (.inl b), some (.inl (rk (sl M j) b)), some (.inl (gN (sl M j) b 10)), some (.inl t), some (.inr (.inr (some (6, j, t)))), some (.inl 1)], [.inl (rk (sl M j) ((M 6 j t 1) / 100))], M) _)
            refine seg_ok 2 (?_ : EvI X E_X5_nextMover (if (rk (sl M j) ((M 6 j t 1) / 100)) < (rk (sl M j) b) then 87 else 90, [some (.inr (.inr (some (5, j, 0)))), some (.inl b), some (.inl (rk (sl M j) b)), some (.inl (gN (sl M j) b 10)), some (.inl t), some (.inr (.inr (some (6, j, t)))), some (.inl 1)], [], M) _)
            refine ev_if (fun h84 => ?_) (fun h84 => ?_)
            · refine seg_ok 1 (?_ : EvI X E_X5_nextMover (89, [some (.inr (.inr (some (5, j, 0)))), some (.inl b), some (.inl (rk (sl M j) b)), some (.inl (gN (sl M j) b 10)), some (.inl t), some (.inr (.inr (some (6, j, t)))), some (.inl 1)], [.inl t], M) _)
              refine ev_rt (r := some (.inl t)) rfl (?_)
              exact ⟨rint (by rw [q3, ff_step (show t < M 5 j 0 4 by omega)]; exact (cif_t ⟨h44, by omega, h84⟩).symm), rfl⟩
            · refine seg_ok 2 (⟨by omega, ?_⟩ : ((-2147483648 : Int) ≤ (t + 1) ∧ (t + 1) < 2147483648) ∧ EvI X E_X5_nextMover (21, [some (.inr (.inr (some (5, j, 0)))), some (.inl b), some (.inl (rk (sl M j) b)), some (.inl (gN (sl M j) b 10)), some (.inl (t + 1)), some (.inr (.inr (some (6, j, t)))), some (.inl 1)], [], M) _)
              refine ih21 (t + 1) (some (.inr (.inr (some (6, j, t))))) (some (.inl 1)) (by omega) (by omega) (by omega) (q3.trans (by rw [ff_step (show t < M 5 j 0 4 by omega)]; exact cif_f (fun z => h84 z.2.2)))
        · refine seg_ok 6 (⟨by omega, ?_⟩ : ((-2147483648 : Int) ≤ (t + 1) ∧ (t + 1) < 2147483648) ∧ EvI X E_X5_nextMover (21, [some (.inr (.inr (some (5, j, 0)))), some (.inl b), some (.inl (rk (sl M j) b)), some (.inl (gN (sl M j) b 10)), some (.inl (t + 1)), some (.inr (.inr (some (6, j, t)))), some (.inl 0)], [], M) _)
          refine ih21 (t + 1) (some (.inr (.inr (some (6, j, t))))) (some (.inl 0)) (by omega) (by omega) (by omega) (q3.trans (by rw [ff_step (show t < M 5 j 0 4 by omega)]; exact cif_f (fun z => h44 z.1)))
      · refine seg_ok 1 (?_ : EvI X E_X5_nextMover (98, [some (.inr (.inr (some (5, j, 0)))), some (.inl b), some (.inl (rk (sl M j) b)), some (.inl (gN (sl M j) b 10)), some (.inl t), d21_5, d21_6], [.inl (-9)], M) _)
        refine ev_rt (r := some (.inl (-9))) rfl (?_)
        exact ⟨rint (by rw [q3, ff_end (show ¬ t < M 5 j 0 4 by omega)]), rfl⟩
  refine L21 ((M 5 j 0 4 - 0) + 1 : Int).toNat 0 none none (by omega) (by omega) (by omega) (by rw [Int.sub_zero])
theorem d_openHolds {m : Int} {M : NM} {j : Int} (hI : Inv m (sl M j))  : HT X z_X5_openHolds [.inr (.inr (some (5, j, 0)))] M (fun rr MM => rr = some (.inl (sm (fun k => bi (M 3 j k 0 = 0)) (M 5 j 0 3).toNat)) ∧ MM = M) := by
  have hi := hI.1
  simp only [Iv0, sl] at hi
  refine ht_of (e := E_X5_openHolds) rfl (?_ : EvI X E_X5_openHolds (0, [some (.inr (.inr (some (5, j, 0)))), none, none], [], M) _)
  refine seg_ok 4 (?_ : EvI X E_X5_openHolds (4, [some (.inr (.inr (some (5, j, 0)))), some (.inl 0), some (.inl 0)], [], M) _)
  have L4 : ∀ (m4 : Nat) (n k : Int), M 5 j 0 3 - k < (m4 : Int) → (0 ≤ k) → (k ≤ M 5 j 0 3) → (n = sm (fun k => bi (M 3 j k 0 = 0)) k.toNat) → EvI X E_X5_openHolds (4, [some (.inr (.inr (some (5, j, 0)))), some (.inl n), some (.inl k)], [], M) (fun rr MM => rr = some (.inl (sm (fun k => bi (M 3 j k 0 = 0)) (M 5 j 0 3).toNat)) ∧ MM = M) := by
    intro m4
    induction m4 with
    | zero => intro n k hm4 q1 q2 q3; exact absurd hm4 (by omega)
    | succ m4 ih4 =>
      intro n k hm4 q1 q2 q3
      subst q3
      have g := smb_bnd (fun k => M 3 j k 0 = 0) k.toNat
      refine seg_ok 4 (?_ : EvI X E_X5_openHolds (if k < (M 5 j 0 3) then 12 else 33, [some (.inr (.inr (some (5, j, 0)))), some (.inl (sm (fun k => bi (M 3 j k 0 = 0)) k.toNat)), some (.inl k)], [], M) _)
      refine ev_if (fun h9 => ?_) (fun h9 => ?_)
      · refine seg_ok 6 (⟨by omega, ?_⟩ : ((0 : Int) ≤ k ∧ k < 20) ∧ EvI X E_X5_openHolds (if (M 3 j k 0) = 0 then 24 else 27, [some (.inr (.inr (some (5, j, 0)))), some (.inl (sm (fun k => bi (M 3 j k 0 = 0)) k.toNat)), some (.inl k)], [], M) _)
        refine ev_if (fun h21 => ?_) (fun h21 => ?_)
        · refine seg_ok 3 (⟨by omega, by omega, ?_⟩ : ((-2147483648 : Int) ≤ ((sm (fun k => bi (M 3 j k 0 = 0)) k.toNat) + 1) ∧ ((sm (fun k => bi (M 3 j k 0 = 0)) k.toNat) + 1) < 2147483648) ∧ ((-2147483648 : Int) ≤ (k + 1) ∧ (k + 1) < 2147483648) ∧ EvI X E_X5_openHolds (4, [some (.inr (.inr (some (5, j, 0)))), some (.inl ((sm (fun k => bi (M 3 j k 0 = 0)) k.toNat) + 1)), some (.inl (k + 1))], [], M) _)
          refine ih4 ((sm (fun k => bi (M 3 j k 0 = 0)) k.toNat) + 1) (k + 1) (by omega) (by omega) (by omega) (by rw [sm_step q1]; exact acc0 (is1 h21))
        · refine seg_ok 2 (⟨by omega, ?_⟩ : ((-2147483648 : Int) ≤ (k + 1) ∧ (k + 1) < 2147483648) ∧ EvI X E_X5_openHolds (4, [some (.inr (.inr (some (5, j, 0)))), some (.inl (sm (fun k => bi (M 3 j k 0 = 0)) k.toNat)), some (.inl (k + 1))], [], M) _)
          refine ih4 (sm (fun k => bi (M 3 j k 0 = 0)) k.toNat) (k + 1) (by omega) (by omega) (by omega) (by rw [sm_step q1, bi_f h21, Int.add_zero])
      · refine seg_ok 1 (?_ : EvI X E_X5_openHolds (34, [some (.inr (.inr (some (5, j, 0)))), some (.inl (sm (fun k => bi (M 3 j k 0 = 0)) k.toNat)), some (.inl k)], [.inl (sm (fun k => bi (M 3 j k 0 = 0)) k.toNat)], M) _)
        refine ev_rt (r := some (.inl (sm (fun k => bi (M 3 j k 0 = 0)) k.toNat))) rfl (?_)
        exact ⟨rint (by rw [show k = M 5 j 0 3 by omega]), rfl⟩
  refine L4 ((M 5 j 0 3 - 0) + 1 : Int).toNat 0 0 (by omega) (by omega) (by omega) rfl
theorem d_ticketsThatAre {m : Int} {M : NM} {j : Int} (hI : Inv m (sl M j)) {w : Int} : HT X z_X5_ticketsThatAre [.inr (.inr (some (5, j, 0))), .inl w] M (fun rr MM => rr = some (.inl (sm (fun k => bi (M 6 j k 0 = w)) (M 5 j 0 4).toNat)) ∧ MM = M) := by
  have hi := hI.1
  simp only [Iv0, sl] at hi
  refine ht_of (e := E_X5_ticketsThatAre) rfl (?_ : EvI X E_X5_ticketsThatAre (0, [some (.inr (.inr (some (5, j, 0)))), some (.inl w), none, none], [], M) _)
  refine seg_ok 4 (?_ : EvI X E_X5_ticketsThatAre (4, [some (.inr (.inr (some (5, j, 0)))), some (.inl w), some (.inl 0), some (.inl 0)], [], M) _)
  have L4 : ∀ (m4 : Nat) (n k : Int), M 5 j 0 4 - k < (m4 : Int) → (0 ≤ k) → (k ≤ M 5 j 0 4) → (n = sm (fun k => bi (M 6 j k 0 = w)) k.toNat) → EvI X E_X5_ticketsThatAre (4, [some (.inr (.inr (some (5, j, 0)))), some (.inl w), some (.inl n), some (.inl k)], [], M) (fun rr MM => rr = some (.inl (sm (fun k => bi (M 6 j k 0 = w)) (M 5 j 0 4).toNat)) ∧ MM = M) := by
    intro m4
    induction m4 with
    | zero => intro n k hm4 q1 q2 q3; exact absurd hm4 (by omega)
    | succ m4 ih4 =>
      intro n k hm4 q1 q2 q3
      subst q3
      have g := smb_bnd (fun k => M 6 j k 0 = w) k.toNat
      refine seg_ok 4 (?_ : EvI X E_X5_ticketsThatAre (if k < (M 5 j 0 4) then 12 else 34, [some (.inr (.inr (some (5, j, 0)))), some (.inl w), some (.inl (sm (fun k => bi (M 6 j k 0 = w)) k.toNat)), some (.inl k)], [], M) _)
      refine ev_if (fun h9 => ?_) (fun h9 => ?_)
      · refine seg_ok 7 (⟨by omega, ?_⟩ : ((0 : Int) ≤ k ∧ k < 20) ∧ EvI X E_X5_ticketsThatAre (if (M 6 j k 0) = w then 25 else 28, [some (.inr (.inr (some (5, j, 0)))), some (.inl w), some (.inl (sm (fun k => bi (M 6 j k 0 = w)) k.toNat)), some (.inl k)], [], M) _)
        refine ev_if (fun h22 => ?_) (fun h22 => ?_)
        · refine seg_ok 3 (⟨by omega, by omega, ?_⟩ : ((-2147483648 : Int) ≤ ((sm (fun k => bi (M 6 j k 0 = w)) k.toNat) + 1) ∧ ((sm (fun k => bi (M 6 j k 0 = w)) k.toNat) + 1) < 2147483648) ∧ ((-2147483648 : Int) ≤ (k + 1) ∧ (k + 1) < 2147483648) ∧ EvI X E_X5_ticketsThatAre (4, [some (.inr (.inr (some (5, j, 0)))), some (.inl w), some (.inl ((sm (fun k => bi (M 6 j k 0 = w)) k.toNat) + 1)), some (.inl (k + 1))], [], M) _)
          refine ih4 ((sm (fun k => bi (M 6 j k 0 = w)) k.toNat) + 1) (k + 1) (by omega) (by omega) (by omega) (by rw [sm_step q1]; exact acc0 (is1 h22))
        · refine seg_ok 2 (⟨by omega, ?_⟩ : ((-2147483648 : Int) ≤ (k + 1) ∧ (k + 1) < 2147483648) ∧ EvI X E_X5_ticketsThatAre (4, [some (.inr (.inr (some (5, j, 0)))), some (.inl w), some (.inl (sm (fun k => bi (M 6 j k 0 = w)) k.toNat)), some (.inl (k + 1))], [], M) _)
          refine ih4 (sm (fun k => bi (M 6 j k 0 = w)) k.toNat) (k + 1) (by omega) (by omega) (by omega) (by rw [sm_step q1, bi_f h22, Int.add_zero])
      · refine seg_ok 1 (?_ : EvI X E_X5_ticketsThatAre (35, [some (.inr (.inr (some (5, j, 0)))), some (.inl w), some (.inl (sm (fun k => bi (M 6 j k 0 = w)) k.toNat)), some (.inl k)], [.inl (sm (fun k => bi (M 6 j k 0 = w)) k.toNat)], M) _)
        refine ev_rt (r := some (.inl (sm (fun k => bi (M 6 j k 0 = w)) k.toNat))) rfl (?_)
        exact ⟨rint (by rw [show k = M 5 j 0 4 by omega]), rfl⟩
  refine L4 ((M 5 j 0 4 - 0) + 1 : Int).toNat 0 0 (by omega) (by omega) (by omega) rfl
theorem d_minutesToExpiry {m : Int} {M : NM} {j : Int} (hI : Inv m (sl M j))  : HT X z_X5_minutesToExpiry [.inr (.inr (some (5, j, 0)))] M (fun rr MM => rr = some (.inl (neN (sl M j) (M 5 j 0 3).toNat)) ∧ MM = M) := by
  have hi := hI.1
  simp only [Iv0, sl] at hi
  refine ht_of (e := E_X5_minutesToExpiry) rfl (?_ : EvI X E_X5_minutesToExpiry (0, [some (.inr (.inr (some (5, j, 0)))), none, none, none], [], M) _)
  refine seg_ok 4 (?_ : EvI X E_X5_minutesToExpiry (5, [some (.inr (.inr (some (5, j, 0)))), some (.inl (-9)), some (.inl 0), none], [], M) _)
  have L5 : ∀ (m5 : Nat) (u h : Int) (d5_3 : Option U), M 5 j 0 3 - h < (m5 : Int) → (0 ≤ h) → (h ≤ M 5 j 0 3) → (u = neN (sl M j) h.toNat) → EvI X E_X5_minutesToExpiry (5, [some (.inr (.inr (some (5, j, 0)))), some (.inl u), some (.inl h), d5_3], [], M) (fun rr MM => rr = some (.inl (neN (sl M j) (M 5 j 0 3).toNat)) ∧ MM = M) := by
    intro m5
    induction m5 with
    | zero => intro u h d5_3 hm5 q1 q2 q3; exact absurd hm5 (by omega)
    | succ m5 ih5 =>
      intro u h d5_3 hm5 q1 q2 q3
      subst q3
      refine seg_ok 4 (?_ : EvI X E_X5_minutesToExpiry (if h < (M 5 j 0 3) then 13 else 59, [some (.inr (.inr (some (5, j, 0)))), some (.inl (neN (sl M j) h.toNat)), some (.inl h), d5_3], [], M) _)
      refine ev_if (fun h10 => ?_) (fun h10 => ?_)
      · have ht := hI.2.2.2.1 h q1 h10
        simp only [sl] at ht
        refine seg_ok 15 (⟨by omega, by omega, by omega, ?_⟩ : ((0 : Int) ≤ h ∧ h < 20) ∧ ((-2147483648 : Int) ≤ ((M 3 j h 3) - (M 5 j 0 5)) ∧ ((M 3 j h 3) - (M 5 j 0 5)) < 2147483648) ∧ ((0 : Int) ≤ h ∧ h < 20) ∧ EvI X E_X5_minutesToExpiry (if (M 3 j h 0) = 0 then 40 else 53, [some (.inr (.inr (some (5, j, 0)))), some (.inl (neN (sl M j) h.toNat)), some (.inl h), some (.inl ((M 3 j h 3) - (M 5 j 0 5)))], [], M) _)
        refine ev_if (fun h37 => ?_) (fun h37 => ?_)
        · refine seg_ok 3 (?_ : EvI X E_X5_minutesToExpiry (if (neN (sl M j) h.toNat) = (-9) then 51 else 46, [some (.inr (.inr (some (5, j, 0)))), some (.inl (neN (sl M j) h.toNat)), some (.inl h), some (.inl ((M 3 j h 3) - (M 5 j 0 5)))], [], M) _)
          refine ev_if (fun h43 => ?_) (fun h43 => ?_)
          · refine seg_ok 4 (⟨by omega, ?_⟩ : ((-2147483648 : Int) ≤ (h + 1) ∧ (h + 1) < 2147483648) ∧ EvI X E_X5_minutesToExpiry (5, [some (.inr (.inr (some (5, j, 0)))), some (.inl ((M 3 j h 3) - (M 5 j 0 5))), some (.inl (h + 1)), some (.inl ((M 3 j h 3) - (M 5 j 0 5)))], [], M) _)
            refine ih5 ((M 3 j h 3) - (M 5 j 0 5)) (h + 1) (some (.inl ((M 3 j h 3) - (M 5 j 0 5)))) (by omega) (by omega) (by omega) (by rw [neN_step q1]; exact (cA_t h37 (Or.inl h43)).symm)
          · refine seg_ok 3 (?_ : EvI X E_X5_minutesToExpiry (if ((M 3 j h 3) - (M 5 j 0 5)) < (neN (sl M j) h.toNat) then 51 else 53, [some (.inr (.inr (some (5, j, 0)))), some (.inl (neN (sl M j) h.toNat)), some (.inl h), some (.inl ((M 3 j h 3) - (M 5 j 0 5)))], [], M) _)
            refine ev_if (fun h48 => ?_) (fun h48 => ?_)
            · refine seg_ok 4 (⟨by omega, ?_⟩ : ((-2147483648 : Int) ≤ (h + 1) ∧ (h + 1) < 2147483648) ∧ EvI X E_X5_minutesToExpiry (5, [some (.inr (.inr (some (5, j, 0)))), some (.inl ((M 3 j h 3) - (M 5 j 0 5))), some (.inl (h + 1)), some (.inl ((M 3 j h 3) - (M 5 j 0 5)))], [], M) _)
              refine ih5 ((M 3 j h 3) - (M 5 j 0 5)) (h + 1) (some (.inl ((M 3 j h 3) - (M 5 j 0 5)))) (by omega) (by omega) (by omega) (by rw [neN_step q1]; exact (cA_t h37 (Or.inr h48)).symm)
            · refine seg_ok 2 (⟨by omega, ?_⟩ : ((-2147483648 : Int) ≤ (h + 1) ∧ (h + 1) < 2147483648) ∧ EvI X E_X5_minutesToExpiry (5, [some (.inr (.inr (some (5, j, 0)))), some (.inl (neN (sl M j) h.toNat)), some (.inl (h + 1)), some (.inl ((M 3 j h 3) - (M 5 j 0 5)))], [], M) _)
              refine ih5 (neN (sl M j) h.toNat) (h + 1) (some (.inl ((M 3 j h 3) - (M 5 j 0 5)))) (by omega) (by omega) (by omega) (by rw [neN_step q1]; exact (cA_2 (fun z => z.elim h43 h48)).symm)
        · refine seg_ok 2 (⟨by omega, ?_⟩ : ((-2147483648 : Int) ≤ (h + 1) ∧ (h + 1) < 2147483648) ∧ EvI X E_X5_minutesToExpiry (5, [some (.inr (.inr (some (5, j, 0)))), some (.inl (neN (sl M j) h.toNat)), some (.inl (h + 1)), some (.inl ((M 3 j h 3) - (M 5 j 0 5)))], [], M) _)
          refine ih5 (neN (sl M j) h.toNat) (h + 1) (some (.inl ((M 3 j h 3) - (M 5 j 0 5)))) (by omega) (by omega) (by omega) (by rw [neN_step q1]; exact (cA_1 h37).symm)
      · refine seg_ok 1 (?_ : EvI X E_X5_minutesToExpiry (60, [some (.inr (.inr (some (5, j, 0)))), some (.inl (neN (sl M j) h.toNat)), some (.inl h), d5_3], [.inl (neN (sl M j) h.toNat)], M) _)
        refine ev_rt (r := some (.inl (neN (sl M j) h.toNat))) rfl (?_)
        exact ⟨rint (by rw [show h = M 5 j 0 3 by omega]), rfl⟩
  refine L5 ((M 5 j 0 3 - 0) + 1 : Int).toNat (-9) 0 none (by omega) (by omega) (by omega) rfl
theorem d_holdFigure {m : Int} {M : NM} {j : Int} (hI : Inv m (sl M j)) {b w : Int} : HT X z_X5_holdFigure [.inr (.inr (some (5, j, 0))), .inl b, .inl w] M (fun rr MM => rr = some (.inl (cif ((0 ≤ b ∧ b < M 5 j 0 3) ∧ (0 ≤ w ∧ w ≤ 4)) (M 3 j b w) (-1))) ∧ MM = M) := by
  have hi := hI.1
  simp only [Iv0, sl] at hi
  refine ht_of (e := E_X5_holdFigure) rfl (?_ : EvI X E_X5_holdFigure (0, [some (.inr (.inr (some (5, j, 0)))), some (.inl b), some (.inl w), none], [], M) _)
  refine seg_ok 2 (?_ : EvI X E_X5_holdFigure (2, [some (.inr (.inr (some (5, j, 0)))), some (.inl b), some (.inl w), none], [.inl b, .inr (.inr (some (5, j, 0)))], M) _)
  by_cases hb : 0 ≤ b ∧ b < M 5 j 0 3
  · refine ev_clp (v := .inr (.inr (some (3, j, b)))) (z := z_X5_holdAt) (as := [.inr (.inr (some (5, j, 0))), .inl b]) (rest := []) rfl (d_holdAt_t hb (by omega)) (?_ : EvI X E_X5_holdFigure (5, [some (.inr (.inr (some (5, j, 0)))), some (.inl b), some (.inl w), none], [.inr (.inr (some (3, j, b)))], M) _)
    refine seg_ok 5 (?_ : EvI X E_X5_holdFigure (if w = 0 then 48 else if w = 1 then 53 else if w = 2 then 58 else if w = 3 then 63 else if w = 4 then 68 else 73, [some (.inr (.inr (some (5, j, 0)))), some (.inl b), some (.inl w), some (.inr (.inr (some (3, j, b))))], [], M) _)
    refine ev_if (fun h13 => ?_) (fun h13_0 => ?_)
    · refine seg_ok 2 (?_ : EvI X E_X5_holdFigure (52, [some (.inr (.inr (some (5, j, 0)))), some (.inl b), some (.inl w), some (.inr (.inr (some (3, j, b))))], [.inl (M 3 j b 0)], M) _)
      refine ev_rt (r := some (.inl (M 3 j b 0))) rfl (?_)
      exact ⟨rint (by rw [h13]; exact (cA_t hb (by omega)).symm), rfl⟩
    refine ev_if (fun h13 => ?_) (fun h13_1 => ?_)
    · refine seg_ok 2 (?_ : EvI X E_X5_holdFigure (57, [some (.inr (.inr (some (5, j, 0)))), some (.inl b), some (.inl w), some (.inr (.inr (some (3, j, b))))], [.inl (M 3 j b 1)], M) _)
      refine ev_rt (r := some (.inl (M 3 j b 1))) rfl (?_)
      exact ⟨rint (by rw [h13]; exact (cA_t hb (by omega)).symm), rfl⟩
    refine ev_if (fun h13 => ?_) (fun h13_2 => ?_)
    · refine seg_ok 2 (?_ : EvI X E_X5_holdFigure (62, [some (.inr (.inr (some (5, j, 0)))), some (.inl b), some (.inl w), some (.inr (.inr (some (3, j, b))))], [.inl (M 3 j b 2)], M) _)
      refine ev_rt (r := some (.inl (M 3 j b 2))) rfl (?_)
      exact ⟨rint (by rw [h13]; exact (cA_t hb (by omega)).symm), rfl⟩
    refine ev_if (fun h13 => ?_) (fun h13_3 => ?_)
    · refine seg_ok 2 (?_ : EvI X E_X5_holdFigure (67, [some (.inr (.inr (some (5, j, 0)))), some (.inl b), some (.inl w), some (.inr (.inr (some (3, j, b))))], [.inl (M 3 j b 3)], M) _)
      refine ev_rt (r := some (.inl (M 3 j b 3))) rfl (?_)
      exact ⟨rint (by rw [h13]; exact (cA_t hb (by omega)).symm), rfl⟩
    refine ev_if (fun h13 => ?_) (fun h13_4 => ?_)
    · refine seg_ok 2 (?_ : EvI X E_X5_holdFigure (72, [some (.inr (.inr (some (5, j, 0)))), some (.inl b), some (.inl w), some (.inr (.inr (some (3, j, b))))], [.inl (M 3 j b 4)], M) _)
      refine ev_rt (r := some (.inl (M 3 j b 4))) rfl (?_)
      exact ⟨rint (by rw [h13]; exact (cA_t hb (by omega)).symm), rfl⟩
    refine seg_ok 1 (?_ : EvI X E_X5_holdFigure (74, [some (.inr (.inr (some (5, j, 0)))), some (.inl b), some (.inl w), some (.inr (.inr (some (3, j, b))))], [.inl (-1)], M) _)
    refine ev_rt (r := some (.inl (-1))) rfl (?_)
    exact ⟨rint (cA_2 (by omega)).symm, rfl⟩
  · refine ev_clp (v := .inr (.inr none)) (z := z_X5_holdAt) (as := [.inr (.inr (some (5, j, 0))), .inl b]) (rest := []) rfl (d_holdAt_f hb) (?_ : EvI X E_X5_holdFigure (5, [some (.inr (.inr (some (5, j, 0)))), some (.inl b), some (.inl w), none], [.inr (.inr none)], M) _)
    refine seg_ok 4 (?_ : EvI X E_X5_holdFigure (11, [some (.inr (.inr (some (5, j, 0)))), some (.inl b), some (.inl w), some (.inr (.inr none))], [.inl (-1)], M) _)
    refine ev_rt (r := some (.inl (-1))) rfl (?_)
    exact ⟨rint (cA_1 hb).symm, rfl⟩
theorem d_ticketFigure {m : Int} {M : NM} {j : Int} (hI : Inv m (sl M j)) {b w : Int} : HT X z_X5_ticketFigure [.inr (.inr (some (5, j, 0))), .inl b, .inl w] M (fun rr MM => rr = some (.inl (cif ((0 ≤ b ∧ b < M 5 j 0 4) ∧ (0 ≤ w ∧ w ≤ 4)) (M 6 j b w) (-1))) ∧ MM = M) := by
  have hi := hI.1
  simp only [Iv0, sl] at hi
  refine ht_of (e := E_X5_ticketFigure) rfl (?_ : EvI X E_X5_ticketFigure (0, [some (.inr (.inr (some (5, j, 0)))), some (.inl b), some (.inl w), none], [], M) _)
  refine seg_ok 2 (?_ : EvI X E_X5_ticketFigure (2, [some (.inr (.inr (some (5, j, 0)))), some (.inl b), some (.inl w), none], [.inl b, .inr (.inr (some (5, j, 0)))], M) _)
  by_cases hb : 0 ≤ b ∧ b < M 5 j 0 4
  · refine ev_clp (v := .inr (.inr (some (6, j, b)))) (z := z_X5_ticketAt) (as := [.inr (.inr (some (5, j, 0))), .inl b]) (rest := []) rfl (d_ticketAt_t hb (by omega)) (?_ : EvI X E_X5_ticketFigure (5, [some (.inr (.inr (some (5, j, 0)))), some (.inl b), some (.inl w), none], [.inr (.inr (some (6, j, b)))], M) _)
    refine seg_ok 5 (?_ : EvI X E_X5_ticketFigure (if w = 0 then 48 else if w = 1 then 53 else if w = 2 then 58 else if w = 3 then 63 else if w = 4 then 68 else 73, [some (.inr (.inr (some (5, j, 0)))), some (.inl b), some (.inl w), some (.inr (.inr (some (6, j, b))))], [], M) _)
    refine ev_if (fun h13 => ?_) (fun h13_0 => ?_)
    · refine seg_ok 2 (?_ : EvI X E_X5_ticketFigure (52, [some (.inr (.inr (some (5, j, 0)))), some (.inl b), some (.inl w), some (.inr (.inr (some (6, j, b))))], [.inl (M 6 j b 0)], M) _)
      refine ev_rt (r := some (.inl (M 6 j b 0))) rfl (?_)
      exact ⟨rint (by rw [h13]; exact (cA_t hb (by omega)).symm), rfl⟩
    refine ev_if (fun h13 => ?_) (fun h13_1 => ?_)
    · refine seg_ok 2 (?_ : EvI X E_X5_ticketFigure (57, [some (.inr (.inr (some (5, j, 0)))), some (.inl b), some (.inl w), some (.inr (.inr (some (6, j, b))))], [.inl (M 6 j b 1)], M) _)
      refine ev_rt (r := some (.inl (M 6 j b 1))) rfl (?_)
      exact ⟨rint (by rw [h13]; exact (cA_t hb (by omega)).symm), rfl⟩
    refine ev_if (fun h13 => ?_) (fun h13_2 => ?_)
    · refine seg_ok 2 (?_ : EvI X E_X5_ticketFigure (62, [some (.inr (.inr (some (5, j, 0)))), some (.inl b), some (.inl w), some (.inr (.inr (some (6, j, b))))], [.inl (M 6 j b 2)], M) _)
      refine ev_rt (r := some (.inl (M 6 j b 2))) rfl (?_)
      exact ⟨rint (by rw [h13]; exact (cA_t hb (by omega)).symm), rfl⟩
    refine ev_if (fun h13 => ?_) (fun h13_3 => ?_)
    · refine seg_ok 2 (?_ : EvI X E_X5_ticketFigure (67, [some (.inr (.inr (some (5, j, 0)))), some (.inl b), some (.inl w), some (.inr (.inr (some (6, j, b))))], [.inl (M 6 j b 3)], M) _)
      refine ev_rt (r := some (.inl (M 6 j b 3))) rfl (?_)
      exact ⟨rint (by rw [h13]; exact (cA_t hb (by omega)).symm), rfl⟩
    refine ev_if (fun h13 => ?_) (fun h13_4 => ?_)
    · refine seg_ok 2 (?_ : EvI X E_X5_ticketFigure (72, [some (.inr (.inr (some (5, j, 0)))), some (.inl b), some (.inl w), some (.inr (.inr (some (6, j, b))))], [.inl (M 6 j b 4)], M) _)
      refine ev_rt (r := some (.inl (M 6 j b 4))) rfl (?_)
      exact ⟨rint (by rw [h13]; exact (cA_t hb (by omega)).symm), rfl⟩
    refine seg_ok 1 (?_ : EvI X E_X5_ticketFigure (74, [some (.inr (.inr (some (5, j, 0)))), some (.inl b), some (.inl w), some (.inr (.inr (some (6, j, b))))], [.inl (-1)], M) _)
    refine ev_rt (r := some (.inl (-1))) rfl (?_)
    exact ⟨rint (cA_2 (by omega)).symm, rfl⟩
  · refine ev_clp (v := .inr (.inr none)) (z := z_X5_ticketAt) (as := [.inr (.inr (some (5, j, 0))), .inl b]) (rest := []) rfl (d_ticketAt_f hb) (?_ : EvI X E_X5_ticketFigure (5, [some (.inr (.inr (some (5, j, 0)))), some (.inl b), some (.inl w), none], [.inr (.inr none)], M) _)
    refine seg_ok 4 (?_ : EvI X E_X5_ticketFigure (11, [some (.inr (.inr (some (5, j, 0)))), some (.inl b), some (.inl w), some (.inr (.inr none))], [.inl (-1)], M) _)
    refine ev_rt (r := some (.inl (-1))) rfl (?_)
    exact ⟨rint (cA_1 hb).symm, rfl⟩
end
