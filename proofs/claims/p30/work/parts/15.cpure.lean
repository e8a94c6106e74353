/-! 15: the class: what the floor's methods that only look answer -/
section
variable {X : XI}
theorem shl1_r {n : Int} (h : 0 ≤ n ∧ n ≤ 20) : 1 ≤ shlI 1 n ∧ shlI 1 n ≤ 1048576 := by
  obtain ⟨k, rfl⟩ := Int.eq_ofNat_of_zero_le h.1
  rw [shl1 (by omega)]
  have h1 : 2 ^ k ≤ 2 ^ 20 := Nat.pow_le_pow_right (by decide) (by omega)
  have h2 : 1 ≤ 2 ^ k := Nat.one_le_two_pow
  have h3 : (2 : Nat) ^ 20 = 1048576 := rfl
  omega
theorem d_blockAt_t {M : NM} {j b : Int} (h : 0 ≤ b ∧ b < M 1 j 0 3) (h6 : M 1 j 0 3 ≤ 6) : HT X z_X1_blockAt [.inr (.inr (some (1, j, 0))), .inl b] M (fun r M' => r = some (.inr (.inr (some (0, j, b)))) ∧ M' = M) := by
  refine ht_of (e := E_X1_blockAt) rfl (?_ : EvI X E_X1_blockAt (0, [some (.inr (.inr (some (1, j, 0)))), some (.inl b)], [], M) _)
  refine seg_ok 2 (?_ : EvI X E_X1_blockAt (if b < 0 then 21 else 4, [some (.inr (.inr (some (1, j, 0)))), some (.inl b)], [], M) _)
  refine ev_if (fun h1 => ?_) (fun h1 => ?_)
  · exfalso
    omega
  · refine seg_ok 4 (?_ : EvI X E_X1_blockAt (if b < (M 1 j 0 3) then 12 else 21, [some (.inr (.inr (some (1, j, 0)))), some (.inl b)], [], M) _)
    refine ev_if (fun h9 => ?_) (fun h9 => ?_)
    · refine seg_ok 5 (⟨by omega, ?_⟩ : ((0 : Int) ≤ b ∧ b < 6) ∧ EvI X E_X1_blockAt (22, [some (.inr (.inr (some (1, j, 0)))), some (.inl b)], [.inr (.inr (some (0, j, b)))], M) _)
      refine ev_rt (r := some (.inr (.inr (some (0, j, b))))) rfl (?_)
      exact ⟨rfl, rfl⟩
    · exfalso
      omega
theorem d_blockAt_f {M : NM} {j b : Int} (h : ¬ (0 ≤ b ∧ b < M 1 j 0 3)) : HT X z_X1_blockAt [.inr (.inr (some (1, j, 0))), .inl b] M (fun r M' => r = some (.inr (.inr none)) ∧ M' = M) := by
  refine ht_of (e := E_X1_blockAt) rfl (?_ : EvI X E_X1_blockAt (0, [some (.inr (.inr (some (1, j, 0)))), some (.inl b)], [], M) _)
  refine seg_ok 2 (?_ : EvI X E_X1_blockAt (if b < 0 then 21 else 4, [some (.inr (.inr (some (1, j, 0)))), some (.inl b)], [], M) _)
  refine ev_if (fun h1 => ?_) (fun h1 => ?_)
  · refine seg_ok 1 (?_ : EvI X E_X1_blockAt (22, [some (.inr (.inr (some (1, j, 0)))), some (.inl b)], [.inr (.inr none)], M) _)
    refine ev_rt (r := some (.inr (.inr none))) rfl (?_)
    exact ⟨rfl, rfl⟩
  · refine seg_ok 4 (?_ : EvI X E_X1_blockAt (if b < (M 1 j 0 3) then 12 else 21, [some (.inr (.inr (some (1, j, 0)))), some (.inl b)], [], M) _)
    refine ev_if (fun h9 => ?_) (fun h9 => ?_)
    · exfalso
      omega
    · refine seg_ok 1 (?_ : EvI X E_X1_blockAt (22, [some (.inr (.inr (some (1, j, 0)))), some (.inl b)], [.inr (.inr none)], M) _)
      refine ev_rt (r := some (.inr (.inr none))) rfl (?_)
      exact ⟨rfl, rfl⟩
theorem d_isGroup {M : NM} {n : Int} : HT X z_X1_isGroup [.inl n] M (fun rr MM => rr = some (.inl (bi (1 ≤ n ∧ n ≤ 10))) ∧ MM = M) := by
  refine ht_of (e := E_X1_isGroup) rfl (?_ : EvI X E_X1_isGroup (0, [some (.inl n)], [], M) _)
  refine seg_ok 3 (?_ : EvI X E_X1_isGroup (if n < 1 then 15 else 5, [some (.inl n)], [], M) _)
  refine ev_if (fun h2 => ?_) (fun h2 => ?_)
  · refine seg_ok 1 (?_ : EvI X E_X1_isGroup (16, [some (.inl n)], [.inl 0], M) _)
    refine ev_rt (r := some (.inl 0)) rfl (⟨by decide, ?_⟩)
    exact ⟨rint (is0 (by omega)), rfl⟩
  · refine seg_ok 3 (?_ : EvI X E_X1_isGroup (if 10 < n then 15 else 11, [some (.inl n)], [], M) _)
    refine ev_if (fun h8 => ?_) (fun h8 => ?_)
    · refine seg_ok 1 (?_ : EvI X E_X1_isGroup (16, [some (.inl n)], [.inl 0], M) _)
      refine ev_rt (r := some (.inl 0)) rfl (⟨by decide, ?_⟩)
      exact ⟨rint (is0 (by omega)), rfl⟩
    · refine seg_ok 2 (?_ : EvI X E_X1_isGroup (16, [some (.inl n)], [.inl 1], M) _)
      refine ev_rt (r := some (.inl 1)) rfl (⟨by decide, ?_⟩)
      exact ⟨rint (is1 (by omega)), rfl⟩
theorem d_isStage {M : NM} {j : Int} {b : Int} : HT X z_X1_isStage [.inr (.inr (some (1, j, 0))), .inl b] M (fun rr MM => rr = some (.inl (bi (0 ≤ b ∧ b < M 1 j 0 4))) ∧ MM = M) := by
  refine ht_of (e := E_X1_isStage) rfl (?_ : EvI X E_X1_isStage (0, [some (.inr (.inr (some (1, j, 0)))), some (.inl b)], [], M) _)
  refine seg_ok 2 (?_ : EvI X E_X1_isStage (if b < 0 then 16 else 4, [some (.inr (.inr (some (1, j, 0)))), some (.inl b)], [], M) _)
  refine ev_if (fun h1 => ?_) (fun h1 => ?_)
  · refine seg_ok 1 (?_ : EvI X E_X1_isStage (17, [some (.inr (.inr (some (1, j, 0)))), some (.inl b)], [.inl 0], M) _)
    refine ev_rt (r := some (.inl 0)) rfl (⟨by decide, ?_⟩)
    exact ⟨rint (is0 (by omega)), rfl⟩
  · refine seg_ok 4 (?_ : EvI X E_X1_isStage (if b < (M 1 j 0 4) then 12 else 16, [some (.inr (.inr (some (1, j, 0)))), some (.inl b)], [], M) _)
    refine ev_if (fun h9 => ?_) (fun h9 => ?_)
    · refine seg_ok 2 (?_ : EvI X E_X1_isStage (17, [some (.inr (.inr (some (1, j, 0)))), some (.inl b)], [.inl 1], M) _)
      refine ev_rt (r := some (.inl 1)) rfl (⟨by decide, ?_⟩)
      exact ⟨rint (is1 (by omega)), rfl⟩
    · refine seg_ok 1 (?_ : EvI X E_X1_isStage (17, [some (.inr (.inr (some (1, j, 0)))), some (.inl b)], [.inl 0], M) _)
      refine ev_rt (r := some (.inl 0)) rfl (⟨by decide, ?_⟩)
      exact ⟨rint (is0 (by omega)), rfl⟩
theorem d_isUp {M : NM} {j : Int} {b : Int} : HT X z_X1_isUp [.inr (.inr (some (1, j, 0))), .inl b] M (fun rr MM => rr = some (.inl (bi (upP (sl M j) b))) ∧ MM = M) := by
  refine ht_of (e := E_X1_isUp) rfl (?_ : EvI X E_X1_isUp (0, [some (.inr (.inr (some (1, j, 0)))), some (.inl b)], [], M) _)
  refine seg_ok 8 (?_ : EvI X E_X1_isUp (if (andI (shrI (M 1 j 0 5) b) 1) = 1 then 12 else 16, [some (.inr (.inr (some (1, j, 0)))), some (.inl b)], [], M) _)
  refine ev_if (fun h9 => ?_) (fun h9 => ?_)
  · refine seg_ok 2 (?_ : EvI X E_X1_isUp (17, [some (.inr (.inr (some (1, j, 0)))), some (.inl b)], [.inl 1], M) _)
    refine ev_rt (r := some (.inl 1)) rfl (⟨by decide, ?_⟩)
    exact ⟨rint (is1 (h9)), rfl⟩
  · refine seg_ok 1 (?_ : EvI X E_X1_isUp (17, [some (.inr (.inr (some (1, j, 0)))), some (.inl b)], [.inl 0], M) _)
    refine ev_rt (r := some (.inl 0)) rfl (⟨by decide, ?_⟩)
    exact ⟨rint (is0 (h9)), rfl⟩
theorem d_rankOf {m : Int} {M : NM} {j : Int} (hI : Inv m (sl M j)) {b : Int} (h1 : 0 ≤ b ∧ b < M 1 j 0 3) : HT X z_X1_rankOf [.inr (.inr (some (1, j, 0))), .inl b] M (fun rr MM => rr = some (.inl (rk (sl M j) b)) ∧ MM = M) := by
  have hi := hI.1
  simp only [Iv0, sl] at hi
  refine ht_of (e := E_X1_rankOf) rfl (?_ : EvI X E_X1_rankOf (0, [some (.inr (.inr (some (1, j, 0)))), some (.inl b), none, none, none], [], M) _)
  refine seg_ok 2 (?_ : EvI X E_X1_rankOf (2, [some (.inr (.inr (some (1, j, 0)))), some (.inl b), none, none, none], [.inl b, .inr (.inr (some (1, j, 0)))], M) _)
  refine ev_clp (v := .inr (.inr (some (0, j, b)))) (z := z_X1_blockAt) (as := [.inr (.inr (some (1, j, 0))), .inl b]) (rest := []) rfl (d_blockAt_t (by omega) (by omega)) (?_ : EvI X E_X1_rankOf (5, [some (.inr (.inr (some (1, j, 0)))), some (.inl b), none, none, none], [.inr (.inr (some (0, j, b)))], M) _)
  refine seg_ok 5 (?_ : EvI X E_X1_rankOf (11, [some (.inr (.inr (some (1, j, 0)))), some (.inl b), some (.inr (.inr (some (0, j, b)))), some (.inl 0), some (.inl 0)], [], M) _)
  have L11 : ∀ (m11 : Nat) (n o : Int), M 1 j 0 3 - o < (m11 : Int) → (0 ≤ o) → (o ≤ M 1 j 0 3) → (n = sm (fun o => bi (M 0 j o 2 < M 0 j b 2)) o.toNat) → EvI X E_X1_rankOf (11, [some (.inr (.inr (some (1, j, 0)))), some (.inl b), some (.inr (.inr (some (0, j, b)))), some (.inl n), some (.inl o)], [], M) (fun rr MM => rr = some (.inl (rk (sl M j) b)) ∧ MM = M) := by
    intro m11
    induction m11 with
    | zero => intro n o hm11 q1 q2 q3; exact absurd hm11 (by omega)
    | succ m11 ih11 =>
      intro n o hm11 q1 q2 q3
      subst q3
      have q4 := smb_bnd (fun o => M 0 j o 2 < M 0 j b 2) o.toNat
      refine seg_ok 6 (?_ : EvI X E_X1_rankOf (if o < (M 1 j 0 3) then 24 else 50, [some (.inr (.inr (some (1, j, 0)))), some (.inl b), some (.inr (.inr (some (0, j, b)))), some (.inl (sm (fun o => bi (M 0 j o 2 < M 0 j b 2)) o.toNat)), some (.inl o)], [], M) _)
      refine ev_if (fun h21 => ?_) (fun h21 => ?_)
      · refine seg_ok 8 (⟨by omega, ?_⟩ : ((0 : Int) ≤ o ∧ o < 6) ∧ EvI X E_X1_rankOf (if (M 0 j o 2) < (M 0 j b 2) then 41 else 44, [some (.inr (.inr (some (1, j, 0)))), some (.inl b), some (.inr (.inr (some (0, j, b)))), some (.inl (sm (fun o => bi (M 0 j o 2 < M 0 j b 2)) o.toNat)), some (.inl o)], [], M) _)
        refine ev_if (fun h38 => ?_) (fun h38 => ?_)
        · refine seg_ok 3 (⟨by omega, by omega, ?_⟩ : ((-2147483648 : Int) ≤ ((sm (fun o => bi (M 0 j o 2 < M 0 j b 2)) o.toNat) + 1) ∧ ((sm (fun o => bi (M 0 j o 2 < M 0 j b 2)) o.toNat) + 1) < 2147483648) ∧ ((-2147483648 : Int) ≤ (o + 1) ∧ (o + 1) < 2147483648) ∧ EvI X E_X1_rankOf (11, [some (.inr (.inr (some (1, j, 0)))), some (.inl b), some (.inr (.inr (some (0, j, b)))), some (.inl ((sm (fun o => bi (M 0 j o 2 < M 0 j b 2)) o.toNat) + 1)), some (.inl (o + 1))], [], M) _)
          refine ih11 ((sm (fun o => bi (M 0 j o 2 < M 0 j b 2)) o.toNat) + 1) (o + 1) (by omega) (by omega) (by omega) (by rw [sm_step q1]; exact acc0 (is1 h38))
        · refine seg_ok 2 (⟨by omega, ?_⟩ : ((-2147483648 : Int) ≤ (o + 1) ∧ (o + 1) < 2147483648) ∧ EvI X E_X1_rankOf (11, [some (.inr (.inr (some (1, j, 0)))), some (.inl b), some (.inr (.inr (some (0, j, b)))), some (.inl (sm (fun o => bi (M 0 j o 2 < M 0 j b 2)) o.toNat)), some (.inl (o + 1))], [], M) _)
          refine ih11 (sm (fun o => bi (M 0 j o 2 < M 0 j b 2)) o.toNat) (o + 1) (by omega) (by omega) (by omega) (by rw [sm_step q1, bi_f h38, Int.add_zero])
      · refine seg_ok 1 (?_ : EvI X E_X1_rankOf (51, [some (.inr (.inr (some (1, j, 0)))), some (.inl b), some (.inr (.inr (some (0, j, b)))), some (.inl (sm (fun o => bi (M 0 j o 2 < M 0 j b 2)) o.toNat)), some (.inl o)], [.inl (sm (fun o => bi (M 0 j o 2 < M 0 j b 2)) o.toNat)], M) _)
        refine ev_rt (r := some (.inl (sm (fun o => bi (M 0 j o 2 < M 0 j b 2)) o.toNat))) rfl (?_)
        exact ⟨rint (by rw [show o = M 1 j 0 3 by omega]; rfl), rfl⟩
  refine L11 ((M 1 j 0 3 - 0) + 1 : Int).toNat 0 0 (by omega) (by omega) (by omega) rfl
theorem d_priceOf {M : NM} {j : Int} {b : Int} (h1 : 0 ≤ b ∧ b < M 1 j 0 3) (h6 : M 1 j 0 3 ≤ 6) : HT X z_X1_priceOf [.inr (.inr (some (1, j, 0))), .inl b] M (fun rr MM => rr = some (.inl (M 0 j b 2)) ∧ MM = M) := by
  refine ht_of (e := E_X1_priceOf) rfl (?_ : EvI X E_X1_priceOf (0, [some (.inr (.inr (some (1, j, 0)))), some (.inl b), none], [], M) _)
  refine seg_ok 2 (?_ : EvI X E_X1_priceOf (2, [some (.inr (.inr (some (1, j, 0)))), some (.inl b), none], [.inl b, .inr (.inr (some (1, j, 0)))], M) _)
  refine ev_clp (v := .inr (.inr (some (0, j, b)))) (z := z_X1_blockAt) (as := [.inr (.inr (some (1, j, 0))), .inl b]) (rest := []) rfl (d_blockAt_t (by omega) (by omega)) (?_ : EvI X E_X1_priceOf (5, [some (.inr (.inr (some (1, j, 0)))), some (.inl b), none], [.inr (.inr (some (0, j, b)))], M) _)
  refine seg_ok 5 (?_ : EvI X E_X1_priceOf (18, [some (.inr (.inr (some (1, j, 0)))), some (.inl b), some (.inr (.inr (some (0, j, b))))], [.inl (M 0 j b 2)], M) _)
  refine ev_rt (r := some (.inl (M 0 j b 2))) rfl (?_)
  exact ⟨rfl, rfl⟩
theorem d_isChair {m : Int} {M : NM} {j : Int} (hI : Inv m (sl M j)) {c : Int} : HT X z_X1_isChair [.inr (.inr (some (1, j, 0))), .inl c] M (fun rr MM => rr = some (.inl (bi (isCh (sl M j) c))) ∧ MM = M) := by
  have hi := hI.1
  simp only [Iv0, sl] at hi
  refine ht_of (e := E_X1_isChair) rfl (?_ : EvI X E_X1_isChair (0, [some (.inr (.inr (some (1, j, 0)))), some (.inl c), none, none], [], M) _)
  refine seg_ok 2 (?_ : EvI X E_X1_isChair (if c < 0 then 4 else 6, [some (.inr (.inr (some (1, j, 0)))), some (.inl c), none, none], [], M) _)
  refine ev_if (fun h1 => ?_) (fun h1 => ?_)
  · refine seg_ok 1 (?_ : EvI X E_X1_isChair (5, [some (.inr (.inr (some (1, j, 0)))), some (.inl c), none, none], [.inl 0], M) _)
    refine ev_rt (r := some (.inl 0)) rfl (⟨by decide, ?_⟩)
    exact ⟨rint (is0 (by simp only [isCh, sl]; omega)), rfl⟩
  · refine seg_ok 4 (⟨by omega, ?_⟩ : ((0 : Int) ≤ c ∧ (0 : Int) < 100) ∧ EvI X E_X1_isChair (11, [some (.inr (.inr (some (1, j, 0)))), some (.inl c), none, none], [.inl (c / 100), .inr (.inr (some (1, j, 0)))], M) _)
    by_cases hb : 0 ≤ c / 100 ∧ c / 100 < M 1 j 0 3
    · refine ev_clp (v := .inr (.inr (some (0, j, (c / 100))))) (z := z_X1_blockAt) (as := [.inr (.inr (some (1, j, 0))), .inl (c / 100)]) (rest := []) rfl (d_blockAt_t hb (by omega)) (?_ : EvI X E_X1_isChair (14, [some (.inr (.inr (some (1, j, 0)))), some (.inl c), none, none], [.inr (.inr (some (0, j, (c / 100))))], M) _)
      refine seg_ok 13 (⟨by omega, by omega, ?_⟩ : ((0 : Int) ≤ c ∧ (0 : Int) < 100) ∧ ((0 : Int) ≤ (c % 100) ∧ (0 : Int) < 10) ∧ EvI X E_X1_isChair (if ((c % 100) / 10) < (M 0 j (c / 100) 0) then 37 else 52, [some (.inr (.inr (some (1, j, 0)))), some (.inl c), some (.inr (.inr (some (0, j, (c / 100))))), some (.inl ((c % 100) / 10))], [], M) _)
      refine ev_if (fun h34 => ?_) (fun h34 => ?_)
      · refine seg_ok 6 (⟨by omega, ?_⟩ : ((0 : Int) ≤ c ∧ (0 : Int) < 10) ∧ EvI X E_X1_isChair (if (c % 10) < (M 0 j (c / 100) 1) then 48 else 52, [some (.inr (.inr (some (1, j, 0)))), some (.inl c), some (.inr (.inr (some (0, j, (c / 100))))), some (.inl ((c % 100) / 10))], [], M) _)
        refine ev_if (fun h45 => ?_) (fun h45 => ?_)
        · refine seg_ok 2 (?_ : EvI X E_X1_isChair (53, [some (.inr (.inr (some (1, j, 0)))), some (.inl c), some (.inr (.inr (some (0, j, (c / 100))))), some (.inl ((c % 100) / 10))], [.inl 1], M) _)
          refine ev_rt (r := some (.inl 1)) rfl (⟨by decide, ?_⟩)
          exact ⟨rint (is1 (by simp only [isCh, sl]; omega)), rfl⟩
        · refine seg_ok 1 (?_ : EvI X E_X1_isChair (53, [some (.inr (.inr (some (1, j, 0)))), some (.inl c), some (.inr (.inr (some (0, j, (c / 100))))), some (.inl ((c % 100) / 10))], [.inl 0], M) _)
          refine ev_rt (r := some (.inl 0)) rfl (⟨by decide, ?_⟩)
          exact ⟨rint (is0 (by simp only [isCh, sl]; omega)), rfl⟩
      · refine seg_ok 1 (?_ : EvI X E_X1_isChair (53, [some (.inr (.inr (some (1, j, 0)))), some (.inl c), some (.inr (.inr (some (0, j, (c / 100))))), some (.inl ((c % 100) / 10))], [.inl 0], M) _)
        refine ev_rt (r := some (.inl 0)) rfl (⟨by decide, ?_⟩)
        exact ⟨rint (is0 (by simp only [isCh, sl]; omega)), rfl⟩
    · refine ev_clp (v := .inr (.inr none)) (z := z_X1_blockAt) (as := [.inr (.inr (some (1, j, 0))), .inl (c / 100)]) (rest := []) rfl (d_blockAt_f hb) (?_ : EvI X E_X1_isChair (14, [some (.inr (.inr (some (1, j, 0)))), some (.inl c), none, none], [.inr (.inr none)], M) _)
      refine seg_ok 4 (?_ : EvI X E_X1_isChair (20, [some (.inr (.inr (some (1, j, 0)))), some (.inl c), some (.inr (.inr none)), none], [.inl 0], M) _)
      refine ev_rt (r := some (.inl 0)) rfl (⟨by decide, ?_⟩)
      exact ⟨rint (is0 (by simp only [isCh, sl]; omega)), rfl⟩
theorem d_isPiece {m : Int} {M : NM} {j : Int} (hI : Inv m (sl M j)) {f t : Int} : HT X z_X1_isPiece [.inr (.inr (some (1, j, 0))), .inl f, .inl t] M (fun rr MM => rr = some (.inl (bi (isPc (sl M j) f t))) ∧ MM = M) := by
  have hi := hI.1
  simp only [Iv0, sl] at hi
  refine ht_of (e := E_X1_isPiece) rfl (?_ : EvI X E_X1_isPiece (0, [some (.inr (.inr (some (1, j, 0)))), some (.inl f), some (.inl t), none], [], M) _)
  refine seg_ok 2 (?_ : EvI X E_X1_isPiece (2, [some (.inr (.inr (some (1, j, 0)))), some (.inl f), some (.inl t), none], [.inl f, .inr (.inr (some (1, j, 0)))], M) _)
  refine ev_clp (v := .inl (bi (isCh (sl M j) f))) (z := z_X1_isChair) (as := [.inr (.inr (some (1, j, 0))), .inl f]) (rest := []) rfl (d_isChair hI) (?_ : EvI X E_X1_isPiece (5, [some (.inr (.inr (some (1, j, 0)))), some (.inl f), some (.inl t), none], [.inl (bi (isCh (sl M j) f))], M) _)
  refine seg_ok 1 (?_ : EvI X E_X1_isPiece (if (bi (isCh (sl M j) f)) = 0 then 16 else 8, [some (.inr (.inr (some (1, j, 0)))), some (.inl f), some (.inl t), none], [], M) _)
  refine ev_ifb (fun h5 => ?_) (fun h5 => ?_)
  · refine seg_ok 1 (?_ : EvI X E_X1_isPiece (17, [some (.inr (.inr (some (1, j, 0)))), some (.inl f), some (.inl t), none], [.inl 0], M) _)
    refine ev_rt (r := some (.inl 0)) rfl (⟨by decide, ?_⟩)
    exact ⟨rint (is0 (fun z => by obtain ⟨z1, z2, z3, z4, z5⟩ := z; exact h5 z1)), rfl⟩
  · have k5 := isCh_r hI h5
    refine seg_ok 2 (?_ : EvI X E_X1_isPiece (10, [some (.inr (.inr (some (1, j, 0)))), some (.inl f), some (.inl t), none], [.inl t, .inr (.inr (some (1, j, 0)))], M) _)
    refine ev_clp (v := .inl (bi (isCh (sl M j) t))) (z := z_X1_isChair) (as := [.inr (.inr (some (1, j, 0))), .inl t]) (rest := []) rfl (d_isChair hI) (?_ : EvI X E_X1_isPiece (13, [some (.inr (.inr (some (1, j, 0)))), some (.inl f), some (.inl t), none], [.inl (bi (isCh (sl M j) t))], M) _)
    refine seg_ok 1 (?_ : EvI X E_X1_isPiece (if (bi (isCh (sl M j) t)) = 0 then 16 else 18, [some (.inr (.inr (some (1, j, 0)))), some (.inl f), some (.inl t), none], [], M) _)
    refine ev_ifb (fun h13 => ?_) (fun h13 => ?_)
    · refine seg_ok 1 (?_ : EvI X E_X1_isPiece (17, [some (.inr (.inr (some (1, j, 0)))), some (.inl f), some (.inl t), none], [.inl 0], M) _)
      refine ev_rt (r := some (.inl 0)) rfl (⟨by decide, ?_⟩)
      exact ⟨rint (is0 (fun z => by obtain ⟨z1, z2, z3, z4, z5⟩ := z; exact h13 z2)), rfl⟩
    · have k13 := isCh_r hI h13
      refine seg_ok 7 (⟨by omega, by omega, ?_⟩ : ((0 : Int) ≤ f ∧ (0 : Int) < 100) ∧ ((0 : Int) ≤ t ∧ (0 : Int) < 100) ∧ EvI X E_X1_isPiece (if (f / 100) = (t / 100) then 29 else 33, [some (.inr (.inr (some (1, j, 0)))), some (.inl f), some (.inl t), none], [], M) _)
      refine ev_if (fun h26 => ?_) (fun h26 => ?_)
      · refine seg_ok 8 (?_ : EvI X E_X1_isPiece (if t < f then 59 else 44, [some (.inr (.inr (some (1, j, 0)))), some (.inl f), some (.inl t), some (.inl 1)], [], M) _)
        refine ev_if (fun h41 => ?_) (fun h41 => ?_)
        · refine seg_ok 1 (?_ : EvI X E_X1_isPiece (60, [some (.inr (.inr (some (1, j, 0)))), some (.inl f), some (.inl t), some (.inl 1)], [.inl 0], M) _)
          refine ev_rt (r := some (.inl 0)) rfl (⟨by decide, ?_⟩)
          exact ⟨rint (is0 (fun z => by obtain ⟨z1, z2, z3, z4, z5⟩ := z; omega)), rfl⟩
        · refine seg_ok 7 (⟨by omega, by omega, ?_⟩ : ((0 : Int) ≤ f ∧ (0 : Int) < 10) ∧ ((0 : Int) ≤ t ∧ (0 : Int) < 10) ∧ EvI X E_X1_isPiece (if (t % 10) < (f % 10) then 59 else 55, [some (.inr (.inr (some (1, j, 0)))), some (.inl f), some (.inl t), some (.inl 1)], [], M) _)
          refine ev_if (fun h52 => ?_) (fun h52 => ?_)
          · refine seg_ok 1 (?_ : EvI X E_X1_isPiece (60, [some (.inr (.inr (some (1, j, 0)))), some (.inl f), some (.inl t), some (.inl 1)], [.inl 0], M) _)
            refine ev_rt (r := some (.inl 0)) rfl (⟨by decide, ?_⟩)
            exact ⟨rint (is0 (fun z => by obtain ⟨z1, z2, z3, z4, z5⟩ := z; omega)), rfl⟩
          · refine seg_ok 2 (?_ : EvI X E_X1_isPiece (60, [some (.inr (.inr (some (1, j, 0)))), some (.inl f), some (.inl t), some (.inl 1)], [.inl 1], M) _)
            refine ev_rt (r := some (.inl 1)) rfl (⟨by decide, ?_⟩)
            exact ⟨rint (is1 ⟨h5, h13, h26, by omega, by omega⟩), rfl⟩
      · refine seg_ok 5 (?_ : EvI X E_X1_isPiece (60, [some (.inr (.inr (some (1, j, 0)))), some (.inl f), some (.inl t), some (.inl 0)], [.inl 0], M) _)
        refine ev_rt (r := some (.inl 0)) rfl (⟨by decide, ?_⟩)
        exact ⟨rint (is0 (fun z => by obtain ⟨z1, z2, z3, z4, z5⟩ := z; omega)), rfl⟩
theorem d_chairsUnder {M : NM} {j : Int} {k : Int} : HT X z_X1_chairsUnder [.inr (.inr (some (1, j, 0))), .inl k] M (fun rr MM => rr = some (.inl (sm (fun c => bi (andI (M 14 j 0 c) k ≠ 0)) 600)) ∧ MM = M) := by
  refine ht_of (e := E_X1_chairsUnder) rfl (?_ : EvI X E_X1_chairsUnder (0, [some (.inr (.inr (some (1, j, 0)))), some (.inl k), none, none], [], M) _)
  refine seg_ok 4 (?_ : EvI X E_X1_chairsUnder (4, [some (.inr (.inr (some (1, j, 0)))), some (.inl k), some (.inl 0), some (.inl 0)], [], M) _)
  have L4 : ∀ (m4 : Nat) (n c : Int), 600 - c < (m4 : Int) → (0 ≤ c) → (c ≤ 600) → (n = sm (fun c => bi (andI (M 14 j 0 c) k ≠ 0)) c.toNat) → EvI X E_X1_chairsUnder (4, [some (.inr (.inr (some (1, j, 0)))), some (.inl k), some (.inl n), some (.inl c)], [], M) (fun rr MM => rr = some (.inl (sm (fun c => bi (andI (M 14 j 0 c) k ≠ 0)) 600)) ∧ MM = M) := by
    intro m4
    induction m4 with
    | zero => intro n c hm4 q1 q2 q3; exact absurd hm4 (by omega)
    | succ m4 ih4 =>
      intro n c hm4 q1 q2 q3
      subst q3
      have q4 := smb_bnd (fun c => andI (M 14 j 0 c) k ≠ 0) c.toNat
      refine seg_ok 3 (?_ : EvI X E_X1_chairsUnder (if c < 600 then 11 else 31, [some (.inr (.inr (some (1, j, 0)))), some (.inl k), some (.inl (sm (fun c => bi (andI (M 14 j 0 c) k ≠ 0)) c.toNat)), some (.inl c)], [], M) _)
      refine ev_if (fun h8 => ?_) (fun h8 => ?_)
      · refine seg_ok 7 (⟨by omega, ?_⟩ : ((0 : Int) ≤ c ∧ c < 600) ∧ EvI X E_X1_chairsUnder (if (andI (M 14 j 0 c) k) = 0 then 25 else 22, [some (.inr (.inr (some (1, j, 0)))), some (.inl k), some (.inl (sm (fun c => bi (andI (M 14 j 0 c) k ≠ 0)) c.toNat)), some (.inl c)], [], M) _)
        refine ev_if (fun h19 => ?_) (fun h19 => ?_)
        · refine seg_ok 2 (⟨by omega, ?_⟩ : ((-2147483648 : Int) ≤ (c + 1) ∧ (c + 1) < 2147483648) ∧ EvI X E_X1_chairsUnder (4, [some (.inr (.inr (some (1, j, 0)))), some (.inl k), some (.inl (sm (fun c => bi (andI (M 14 j 0 c) k ≠ 0)) c.toNat)), some (.inl (c + 1))], [], M) _)
          refine ih4 (sm (fun c => bi (andI (M 14 j 0 c) k ≠ 0)) c.toNat) (c + 1) (by omega) (by omega) (by omega) (by rw [sm_step q1, bi_f (fun z => z h19), Int.add_zero])
        · refine seg_ok 3 (⟨by omega, by omega, ?_⟩ : ((-2147483648 : Int) ≤ ((sm (fun c => bi (andI (M 14 j 0 c) k ≠ 0)) c.toNat) + 1) ∧ ((sm (fun c => bi (andI (M 14 j 0 c) k ≠ 0)) c.toNat) + 1) < 2147483648) ∧ ((-2147483648 : Int) ≤ (c + 1) ∧ (c + 1) < 2147483648) ∧ EvI X E_X1_chairsUnder (4, [some (.inr (.inr (some (1, j, 0)))), some (.inl k), some (.inl ((sm (fun c => bi (andI (M 14 j 0 c) k ≠ 0)) c.toNat) + 1)), some (.inl (c + 1))], [], M) _)
          refine ih4 ((sm (fun c => bi (andI (M 14 j 0 c) k ≠ 0)) c.toNat) + 1) (c + 1) (by omega) (by omega) (by omega) (by rw [sm_step q1]; exact acc0 (is1 h19))
      · refine seg_ok 1 (?_ : EvI X E_X1_chairsUnder (32, [some (.inr (.inr (some (1, j, 0)))), some (.inl k), some (.inl (sm (fun c => bi (andI (M 14 j 0 c) k ≠ 0)) c.toNat)), some (.inl c)], [.inl (sm (fun c => bi (andI (M 14 j 0 c) k ≠ 0)) c.toNat)], M) _)
        refine ev_rt (r := some (.inl (sm (fun c => bi (andI (M 14 j 0 c) k ≠ 0)) c.toNat))) rfl (?_)
        exact ⟨rint (by rw [show c = 600 by omega]; rfl), rfl⟩
  refine L4 ((600 - 0) + 1 : Int).toNat 0 0 (by omega) (by omega) (by omega) rfl
theorem d_hasTaken {M : NM} {j : Int} {k : Int} : HT X z_X1_hasTakenChairUnder [.inr (.inr (some (1, j, 0))), .inl k] M (fun rr MM => rr = some (.inl (bi (∃ c : Int, 0 ≤ c ∧ c < 600 ∧ andI (M 14 j 0 c) k ≠ 0 ∧ M 13 j 0 c ≠ 0))) ∧ MM = M) := by
  refine ht_of (e := E_X1_hasTakenChairUnder) rfl (?_ : EvI X E_X1_hasTakenChairUnder (0, [some (.inr (.inr (some (1, j, 0)))), some (.inl k), none], [], M) _)
  refine seg_ok 2 (?_ : EvI X E_X1_hasTakenChairUnder (2, [some (.inr (.inr (some (1, j, 0)))), some (.inl k), some (.inl 0)], [], M) _)
  have L2 : ∀ (m2 : Nat) (c : Int), 600 - c < (m2 : Int) → (0 ≤ c) → (c ≤ 600) → (∀ x, 0 ≤ x → x < c → ¬ (andI (M 14 j 0 x) k ≠ 0 ∧ M 13 j 0 x ≠ 0)) → EvI X E_X1_hasTakenChairUnder (2, [some (.inr (.inr (some (1, j, 0)))), some (.inl k), some (.inl c)], [], M) (fun rr MM => rr = some (.inl (bi (∃ c : Int, 0 ≤ c ∧ c < 600 ∧ andI (M 14 j 0 c) k ≠ 0 ∧ M 13 j 0 c ≠ 0))) ∧ MM = M) := by
    intro m2
    induction m2 with
    | zero => intro c hm2 q1 q2 q3; exact absurd hm2 (by omega)
    | succ m2 ih2 =>
      intro c hm2 q1 q2 q3
      refine seg_ok 3 (?_ : EvI X E_X1_hasTakenChairUnder (if c < 600 then 9 else 37, [some (.inr (.inr (some (1, j, 0)))), some (.inl k), some (.inl c)], [], M) _)
      refine ev_if (fun h6 => ?_) (fun h6 => ?_)
      · refine seg_ok 7 (⟨by omega, ?_⟩ : ((0 : Int) ≤ c ∧ c < 600) ∧ EvI X E_X1_hasTakenChairUnder (if (andI (M 14 j 0 c) k) = 0 then 31 else 20, [some (.inr (.inr (some (1, j, 0)))), some (.inl k), some (.inl c)], [], M) _)
        refine ev_if (fun h17 => ?_) (fun h17 => ?_)
        · refine seg_ok 2 (⟨by omega, ?_⟩ : ((-2147483648 : Int) ≤ (c + 1) ∧ (c + 1) < 2147483648) ∧ EvI X E_X1_hasTakenChairUnder (2, [some (.inr (.inr (some (1, j, 0)))), some (.inl k), some (.inl (c + 1))], [], M) _)
          refine ih2 (c + 1) (by omega) (by omega) (by omega) (fun x a b => by
              by_cases z : x = c
              · rw [z]; exact fun w => w.1 h17
              · exact q3 x a (by omega))
        · refine seg_ok 5 (⟨by omega, ?_⟩ : ((0 : Int) ≤ c ∧ c < 600) ∧ EvI X E_X1_hasTakenChairUnder (if (M 13 j 0 c) = 0 then 31 else 29, [some (.inr (.inr (some (1, j, 0)))), some (.inl k), some (.inl c)], [], M) _)
          refine ev_if (fun h26 => ?_) (fun h26 => ?_)
          · refine seg_ok 2 (⟨by omega, ?_⟩ : ((-2147483648 : Int) ≤ (c + 1) ∧ (c + 1) < 2147483648) ∧ EvI X E_X1_hasTakenChairUnder (2, [some (.inr (.inr (some (1, j, 0)))), some (.inl k), some (.inl (c + 1))], [], M) _)
            refine ih2 (c + 1) (by omega) (by omega) (by omega) (fun x a b => by
                by_cases z : x = c
                · rw [z]; exact fun w => w.2 h26
                · exact q3 x a (by omega))
          · refine seg_ok 1 (?_ : EvI X E_X1_hasTakenChairUnder (30, [some (.inr (.inr (some (1, j, 0)))), some (.inl k), some (.inl c)], [.inl 1], M) _)
            refine ev_rt (r := some (.inl 1)) rfl (⟨by decide, ?_⟩)
            exact ⟨rint (is1 ⟨c, q1, h6, h17, h26⟩), rfl⟩
      · refine seg_ok 1 (?_ : EvI X E_X1_hasTakenChairUnder (38, [some (.inr (.inr (some (1, j, 0)))), some (.inl k), some (.inl c)], [.inl 0], M) _)
        refine ev_rt (r := some (.inl 0)) rfl (⟨by decide, ?_⟩)
        exact ⟨rint (is0 (fun z => by obtain ⟨x, x1, x2, x3⟩ := z; exact q3 x x1 (by omega) x3)), rfl⟩
  refine L2 ((600 - 0) + 1 : Int).toNat 0 (by omega) (by omega) (by omega) (fun x a b => by omega)
set_option maxRecDepth 1890 in
theorem d_chairsThatAre {m : Int} {M : NM} {j : Int} (hI : Inv m (sl M j)) {w b : Int} (h1 : 0 ≤ b ∧ b < M 1 j 0 3) : HT X z_X1_chairsThatAre [.inr (.inr (some (1, j, 0))), .inl w, .inl b] M (fun rr MM => rr = some (.inl (ct (sl M j) b (fun c => M 13 j 0 c = w))) ∧ MM = M) := by
  have hi := hI.1
  simp only [Iv0, sl] at hi
  have hb := hI.2.1 b h1.1 h1.2
  simp only [sl] at hb
  refine ht_of (e := E_X1_chairsThatAre) rfl (?_ : EvI X E_X1_chairsThatAre (0, [some (.inr (.inr (some (1, j, 0)))), some (.inl w), some (.inl b), none, none, none, none, none], [], M) _)
  refine seg_ok 2 (?_ : EvI X E_X1_chairsThatAre (2, [some (.inr (.inr (some (1, j, 0)))), some (.inl w), some (.inl b), none, none, none, none, none], [.inl b, .inr (.inr (some (1, j, 0)))], M) _)
  refine ev_clp (v := .inr (.inr (some (0, j, b)))) (z := z_X1_blockAt) (as := [.inr (.inr (some (1, j, 0))), .inl b]) (rest := []) rfl (d_blockAt_t (by omega) (by omega)) (?_ : EvI X E_X1_chairsThatAre (5, [some (.inr (.inr (some (1, j, 0)))), some (.inl w), some (.inl b), none, none, none, none, none], [.inr (.inr (some (0, j, b)))], M) _)
  refine seg_ok 5 (?_ : EvI X E_X1_chairsThatAre (12, [some (.inr (.inr (some (1, j, 0)))), some (.inl w), some (.inl b), some (.inr (.inr (some (0, j, b)))), some (.inl 0), some (.inl 0), none, none], [], M) _)
  have L12 : ∀ (m12 : Nat) (n r : Int) (d12_6 d12_7 : Option U), M 0 j b 0 - r < (m12 : Int) → (0 ≤ r) → (r ≤ M 0 j b 0) → (n = sm (fun r => ctR (fun c => M 13 j 0 c = w) (100 * b + 10 * r) (M 0 j b 1).toNat) r.toNat) → EvI X E_X1_chairsThatAre (12, [some (.inr (.inr (some (1, j, 0)))), some (.inl w), some (.inl b), some (.inr (.inr (some (0, j, b)))), some (.inl n), some (.inl r), d12_6, d12_7], [], M) (fun rr MM => rr = some (.inl (ct (sl M j) b (fun c => M 13 j 0 c = w))) ∧ MM = M) := by
    intro m12
    induction m12 with
    | zero => intro n r d12_6 d12_7 hm12 q1 q2 q3; exact absurd hm12 (by omega)
    | succ m12 ih12 =>
      intro n r d12_6 d12_7 hm12 q1 q2 q3
      subst q3
      have g1 := ctS_bnd (fun c => M 13 j 0 c = w) b (C := (M 0 j b 1).toNat) (by omega) r.toNat
      refine seg_ok 6 (?_ : EvI X E_X1_chairsThatAre (if r < (M 0 j b 0) then 25 else 78, [some (.inr (.inr (some (1, j, 0)))), some (.inl w), some (.inl b), some (.inr (.inr (some (0, j, b)))), some (.inl (sm (fun r => ctR (fun c => M 13 j 0 c = w) (100 * b + 10 * r) (M 0 j b 1).toNat) r.toNat)), some (.inl r), d12_6, d12_7], [], M) _)
      refine ev_if (fun h22 => ?_) (fun h22 => ?_)
      · refine seg_ok 8 (⟨by omega, by omega, by omega, ?_⟩ : ((-2147483648 : Int) ≤ (b * 100) ∧ (b * 100) < 2147483648) ∧ ((-2147483648 : Int) ≤ (r * 10) ∧ (r * 10) < 2147483648) ∧ ((-2147483648 : Int) ≤ ((b * 100) + (r * 10)) ∧ ((b * 100) + (r * 10)) < 2147483648) ∧ EvI X E_X1_chairsThatAre (37, [some (.inr (.inr (some (1, j, 0)))), some (.inl w), some (.inl b), some (.inr (.inr (some (0, j, b)))), some (.inl (sm (fun r => ctR (fun c => M 13 j 0 c = w) (100 * b + 10 * r) (M 0 j b 1).toNat) r.toNat)), some (.inl r), some (.inl ((b * 100) + (r * 10))), d12_7], [], M) _)
        rw [show (b * 100) + (r * 10) = (100 * b + 10 * r) by omega]
        refine seg_ok 2 (?_ : EvI X E_X1_chairsThatAre (40, [some (.inr (.inr (some (1, j, 0)))), some (.inl w), some (.inl b), some (.inr (.inr (some (0, j, b)))), some (.inl (sm (fun r => ctR (fun c => M 13 j 0 c = w) (100 * b + 10 * r) (M 0 j b 1).toNat) r.toNat)), some (.inl r), some (.inl (100 * b + 10 * r)), some (.inl 0)], [], M) _)
        have L40 : ∀ (m40 : Nat) (n2 c : Int), M 0 j b 1 - c < (m40 : Int) → (0 ≤ c) → (c ≤ M 0 j b 1) → (n2 = sm (fun r => ctR (fun c => M 13 j 0 c = w) (100 * b + 10 * r) (M 0 j b 1).toNat) r.toNat + sm (fun c => bi ((fun c => M 13 j 0 c = w) (100 * b + 10 * r + c))) c.toNat) → EvI X E_X1_chairsThatAre (40, [some (.inr (.inr (some (1, j, 0)))), some (.inl w), some (.inl b), some (.inr (.inr (some (0, j, b)))), some (.inl n2), some (.inl r), some (.inl (100 * b + 10 * r)), some (.inl c)], [], M) (fun rr MM => rr = some (.inl (ct (sl M j) b (fun c => M 13 j 0 c = w))) ∧ MM = M) := by
          intro m40
          induction m40 with
          | zero => intro n2 c hm40 p1 p2 p3; exact absurd hm40 (by omega)
          | succ m40 ih40 =>
            intro n2 c hm40 p1 p2 p3
            subst p3
            have g2 := smb_bnd (fun c => (fun c => M 13 j 0 c = w) (100 * b + 10 * r + c)) c.toNat
            refine seg_ok 4 (?_ : EvI X E_X1_chairsThatAre (if c < (M 0 j b 1) then 49 else 72, [some (.inr (.inr (some (1, j, 0)))), some (.inl w), some (.inl b), some (.inr (.inr (some (0, j, b)))), some (.inl (sm (fun r => ctR (fun c => M 13 j 0 c = w) (100 * b + 10 * r) (M 0 j b 1).toNat) r.toNat + sm (fun c => bi ((fun c => M 13 j 0 c = w) (100 * b + 10 * r + c))) c.toNat)), some (.inl r), some (.inl (100 * b + 10 * r)), some (.inl c)], [], M) _)
            refine ev_if (fun h46 => ?_) (fun h46 => ?_)
            · refine seg_ok 8 (⟨by omega, by omega, ?_⟩ : ((-2147483648 : Int) ≤ ((100 * b + 10 * r) + c) ∧ ((100 * b + 10 * r) + c) < 2147483648) ∧ ((0 : Int) ≤ ((100 * b + 10 * r) + c) ∧ ((100 * b + 10 * r) + c) < 600) ∧ EvI X E_X1_chairsThatAre (if (M 13 j 0 ((100 * b + 10 * r) + c)) = w then 63 else 66, [some (.inr (.inr (some (1, j, 0)))), some (.inl w), some (.inl b), some (.inr (.inr (some (0, j, b)))), some (.inl (sm (fun r => ctR (fun c => M 13 j 0 c = w) (100 * b + 10 * r) (M 0 j b 1).toNat) r.toNat + sm (fun c => bi ((fun c => M 13 j 0 c = w) (100 * b + 10 * r + c))) c.toNat)), some (.inl r), some (.inl (100 * b + 10 * r)), some (.inl c)], [], M) _)
              refine ev_if (fun h60 => ?_) (fun h60 => ?_)
              · refine seg_ok 3 (⟨by omega, by omega, ?_⟩ : ((-2147483648 : Int) ≤ ((sm (fun r => ctR (fun c => M 13 j 0 c = w) (100 * b + 10 * r) (M 0 j b 1).toNat) r.toNat + sm (fun c => bi ((fun c => M 13 j 0 c = w) (100 * b + 10 * r + c))) c.toNat) + 1) ∧ ((sm (fun r => ctR (fun c => M 13 j 0 c = w) (100 * b + 10 * r) (M 0 j b 1).toNat) r.toNat + sm (fun c => bi ((fun c => M 13 j 0 c = w) (100 * b + 10 * r + c))) c.toNat) + 1) < 2147483648) ∧ ((-2147483648 : Int) ≤ (c + 1) ∧ (c + 1) < 2147483648) ∧ EvI X E_X1_chairsThatAre (40, [some (.inr (.inr (some (1, j, 0)))), some (.inl w), some (.inl b), some (.inr (.inr (some (0, j, b)))), some (.inl ((sm (fun r => ctR (fun c => M 13 j 0 c = w) (100 * b + 10 * r) (M 0 j b 1).toNat) r.toNat + sm (fun c => bi ((fun c => M 13 j 0 c = w) (100 * b + 10 * r + c))) c.toNat) + 1)), some (.inl r), some (.inl (100 * b + 10 * r)), some (.inl (c + 1))], [], M) _)
                refine ih40 ((sm (fun r => ctR (fun c => M 13 j 0 c = w) (100 * b + 10 * r) (M 0 j b 1).toNat) r.toNat + sm (fun c => bi ((fun c => M 13 j 0 c = w) (100 * b + 10 * r + c))) c.toNat) + 1) (c + 1) (by omega) (by omega) (by omega) (by rw [sm_step p1]; exact acc (is1 h60))
              · refine seg_ok 2 (⟨by omega, ?_⟩ : ((-2147483648 : Int) ≤ (c + 1) ∧ (c + 1) < 2147483648) ∧ EvI X E_X1_chairsThatAre (40, [some (.inr (.inr (some (1, j, 0)))), some (.inl w), some (.inl b), some (.inr (.inr (some (0, j, b)))), some (.inl (sm (fun r => ctR (fun c => M 13 j 0 c = w) (100 * b + 10 * r) (M 0 j b 1).toNat) r.toNat + sm (fun c => bi ((fun c => M 13 j 0 c = w) (100 * b + 10 * r + c))) c.toNat)), some (.inl r), some (.inl (100 * b + 10 * r)), some (.inl (c + 1))], [], M) _)
                refine ih40 (sm (fun r => ctR (fun c => M 13 j 0 c = w) (100 * b + 10 * r) (M 0 j b 1).toNat) r.toNat + sm (fun c => bi ((fun c => M 13 j 0 c = w) (100 * b + 10 * r + c))) c.toNat) (c + 1) (by omega) (by omega) (by omega) (by rw [sm_step p1, bi_f h60, Int.add_zero])
            · refine seg_ok 2 (⟨by omega, ?_⟩ : ((-2147483648 : Int) ≤ (r + 1) ∧ (r + 1) < 2147483648) ∧ EvI X E_X1_chairsThatAre (12, [some (.inr (.inr (some (1, j, 0)))), some (.inl w), some (.inl b), some (.inr (.inr (some (0, j, b)))), some (.inl (sm (fun r => ctR (fun c => M 13 j 0 c = w) (100 * b + 10 * r) (M 0 j b 1).toNat) r.toNat + sm (fun c => bi ((fun c => M 13 j 0 c = w) (100 * b + 10 * r + c))) c.toNat)), some (.inl (r + 1)), some (.inl (100 * b + 10 * r)), some (.inl c)], [], M) _)
              refine ih12 (sm (fun r => ctR (fun c => M 13 j 0 c = w) (100 * b + 10 * r) (M 0 j b 1).toNat) r.toNat + sm (fun c => bi ((fun c => M 13 j 0 c = w) (100 * b + 10 * r + c))) c.toNat) (r + 1) (some (.inl (100 * b + 10 * r))) (some (.inl c)) (by omega) (by omega) (by omega) (by rw [sm_step q1, show c = M 0 j b 1 by omega]; rfl)
        refine L40 ((M 0 j b 1 - 0) + 1 : Int).toNat (sm (fun r => ctR (fun c => M 13 j 0 c = w) (100 * b + 10 * r) (M 0 j b 1).toNat) r.toNat) 0 (by omega) (by omega) (by omega) (Int.add_zero _).symm
      · refine seg_ok 1 (?_ : EvI X E_X1_chairsThatAre (80, [some (.inr (.inr (some (1, j, 0)))), some (.inl w), some (.inl b), some (.inr (.inr (some (0, j, b)))), some (.inl (sm (fun r => ctR (fun c => M 13 j 0 c = w) (100 * b + 10 * r) (M 0 j b 1).toNat) r.toNat)), some (.inl r), d12_6, d12_7], [.inl (sm (fun r => ctR (fun c => M 13 j 0 c = w) (100 * b + 10 * r) (M 0 j b 1).toNat) r.toNat)], M) _)
        refine ev_rt (r := some (.inl (sm (fun r => ctR (fun c => M 13 j 0 c = w) (100 * b + 10 * r) (M 0 j b 1).toNat) r.toNat))) rfl (?_)
        exact ⟨rint (by rw [show r = M 0 j b 0 by omega]; rfl), rfl⟩
  refine L12 ((M 0 j b 0 - 0) + 1 : Int).toNat 0 0 none none (by omega) (by omega) (by omega) rfl
set_option maxRecDepth 1890 in
theorem d_usableInRow {m : Int} {M : NM} {j : Int} (hI : Iw m (sl M j)) {b r : Int} (h1 : 0 ≤ b ∧ b < M 1 j 0 3) (h2 : 0 ≤ r ∧ r < M 0 j b 0) : HT X z_X1_usableInRow [.inr (.inr (some (1, j, 0))), .inr (.inr (some (0, j, b))), .inl b, .inl r] M (fun rr MM => rr = some (.inl ((mkN (opn (sl M j) (100 * b + 10 * r)) (M 0 j b 1).toNat : Nat))) ∧ MM = M) := by
  have hi := hI.1
  simp only [Iv0, sl] at hi
  have hb := hI.2 b h1.1 h1.2
  simp only [sl] at hb
  refine ht_of (e := E_X1_usableInRow) rfl (?_ : EvI X E_X1_usableInRow (0, [some (.inr (.inr (some (1, j, 0)))), some (.inr (.inr (some (0, j, b)))), some (.inl b), some (.inl r), none, none, none], [], M) _)
  refine seg_ok 10 (⟨by omega, by omega, by omega, ?_⟩ : ((-2147483648 : Int) ≤ (b * 100) ∧ (b * 100) < 2147483648) ∧ ((-2147483648 : Int) ≤ (r * 10) ∧ (r * 10) < 2147483648) ∧ ((-2147483648 : Int) ≤ ((b * 100) + (r * 10)) ∧ ((b * 100) + (r * 10)) < 2147483648) ∧ EvI X E_X1_usableInRow (14, [some (.inr (.inr (some (1, j, 0)))), some (.inr (.inr (some (0, j, b)))), some (.inl b), some (.inl r), some (.inl ((b * 100) + (r * 10))), some (.inl 0), none], [], M) _)
  rw [show (b * 100) + (r * 10) = (100 * b + 10 * r) by omega]
  refine seg_ok 2 (?_ : EvI X E_X1_usableInRow (17, [some (.inr (.inr (some (1, j, 0)))), some (.inr (.inr (some (0, j, b)))), some (.inl b), some (.inl r), some (.inl (100 * b + 10 * r)), some (.inl 0), some (.inl 0)], [], M) _)
  have L17 : ∀ (m17 : Nat) (u c : Int), M 0 j b 1 - c < (m17 : Int) → (0 ≤ c) → (c ≤ M 0 j b 1) → (u = (mkN (opn (sl M j) (100 * b + 10 * r)) c.toNat : Nat)) → EvI X E_X1_usableInRow (17, [some (.inr (.inr (some (1, j, 0)))), some (.inr (.inr (some (0, j, b)))), some (.inl b), some (.inl r), some (.inl (100 * b + 10 * r)), some (.inl u), some (.inl c)], [], M) (fun rr MM => rr = some (.inl ((mkN (opn (sl M j) (100 * b + 10 * r)) (M 0 j b 1).toNat : Nat))) ∧ MM = M) := by
    intro m17
    induction m17 with
    | zero => intro u c hm17 q1 q2 q3; exact absurd hm17 (by omega)
    | succ m17 ih17 =>
      intro u c hm17 q1 q2 q3
      refine seg_ok 4 (?_ : EvI X E_X1_usableInRow (if c < (M 0 j b 1) then 26 else 72, [some (.inr (.inr (some (1, j, 0)))), some (.inr (.inr (some (0, j, b)))), some (.inl b), some (.inl r), some (.inl (100 * b + 10 * r)), some (.inl u), some (.inl c)], [], M) _)
      refine ev_if (fun h23 => ?_) (fun h23 => ?_)
      · refine seg_ok 7 (⟨by omega, by omega, ?_⟩ : ((-2147483648 : Int) ≤ ((100 * b + 10 * r) + c) ∧ ((100 * b + 10 * r) + c) < 2147483648) ∧ ((0 : Int) ≤ ((100 * b + 10 * r) + c) ∧ ((100 * b + 10 * r) + c) < 600) ∧ EvI X E_X1_usableInRow (if (M 13 j 0 ((100 * b + 10 * r) + c)) = 0 then 39 else 66, [some (.inr (.inr (some (1, j, 0)))), some (.inr (.inr (some (0, j, b)))), some (.inl b), some (.inl r), some (.inl (100 * b + 10 * r)), some (.inl u), some (.inl c)], [], M) _)
        refine ev_if (fun h36 => ?_) (fun h36 => ?_)
        · refine seg_ok 10 (⟨by omega, by omega, ?_⟩ : ((-2147483648 : Int) ≤ ((100 * b + 10 * r) + c) ∧ ((100 * b + 10 * r) + c) < 2147483648) ∧ ((0 : Int) ≤ ((100 * b + 10 * r) + c) ∧ ((100 * b + 10 * r) + c) < 600) ∧ EvI X E_X1_usableInRow (if (andI (M 14 j 0 ((100 * b + 10 * r) + c)) (M 1 j 0 5)) = 0 then 57 else 66, [some (.inr (.inr (some (1, j, 0)))), some (.inr (.inr (some (0, j, b)))), some (.inl b), some (.inl r), some (.inl (100 * b + 10 * r)), some (.inl u), some (.inl c)], [], M) _)
          refine ev_if (fun h54 => ?_) (fun h54 => ?_)
          · refine seg_ok 8 (⟨by omega, ?_⟩ : ((-2147483648 : Int) ≤ (c + 1) ∧ (c + 1) < 2147483648) ∧ EvI X E_X1_usableInRow (17, [some (.inr (.inr (some (1, j, 0)))), some (.inr (.inr (some (0, j, b)))), some (.inl b), some (.inl r), some (.inl (100 * b + 10 * r)), some (.inl (orI u (shlI 1 c))), some (.inl (c + 1))], [], M) _)
            refine ih17 (orI u (shlI 1 c)) (c + 1) (by omega) (by omega) (by omega) (by rw [q3]; exact mkN_t q1 (by omega) ⟨by omega, isCh_mk h1.1 h1.2 h2.1 h2.2 (by omega) q1 h23 (by omega), h36, fun z => z h54⟩)
          · refine seg_ok 2 (⟨by omega, ?_⟩ : ((-2147483648 : Int) ≤ (c + 1) ∧ (c + 1) < 2147483648) ∧ EvI X E_X1_usableInRow (17, [some (.inr (.inr (some (1, j, 0)))), some (.inr (.inr (some (0, j, b)))), some (.inl b), some (.inl r), some (.inl (100 * b + 10 * r)), some (.inl u), some (.inl (c + 1))], [], M) _)
            refine ih17 u (c + 1) (by omega) (by omega) (by omega) (by rw [q3, mkN_f q1 (fun z => z.2.2.2 h54)])
        · refine seg_ok 2 (⟨by omega, ?_⟩ : ((-2147483648 : Int) ≤ (c + 1) ∧ (c + 1) < 2147483648) ∧ EvI X E_X1_usableInRow (17, [some (.inr (.inr (some (1, j, 0)))), some (.inr (.inr (some (0, j, b)))), some (.inl b), some (.inl r), some (.inl (100 * b + 10 * r)), some (.inl u), some (.inl (c + 1))], [], M) _)
          refine ih17 u (c + 1) (by omega) (by omega) (by omega) (by rw [q3, mkN_f q1 (fun z => h36 z.2.2.1)])
      · refine seg_ok 1 (?_ : EvI X E_X1_usableInRow (74, [some (.inr (.inr (some (1, j, 0)))), some (.inr (.inr (some (0, j, b)))), some (.inl b), some (.inl r), some (.inl (100 * b + 10 * r)), some (.inl u), some (.inl c)], [.inl u], M) _)
        refine ev_rt (r := some (.inl u)) rfl (?_)
        exact ⟨rint (by rw [q3, show c = M 0 j b 1 by omega]), rfl⟩
  refine L17 ((M 0 j b 1 - 0) + 1 : Int).toNat 0 0 (by omega) (by omega) (by omega) rfl
theorem sml_i {x : Int} (h : sml x = true) : (-2147483648 : Int) ≤ x ∧ x < 2147483648 := by
  unfold sml at h
  simp only [Bool.and_eq_true, decide_eq_true_eq] at h
  omega
set_option maxRecDepth 1860 in
theorem d_bitCount {M : NM} {n : Nat} (h : n < 1024) : HT X z_J6_bitCount_0f7a4 [.inl (n : Int)] M (fun rr MM => rr = some (.inl ((pop10 n : Nat))) ∧ MM = M) := by
  have fb := fin_bc n h
  simp only [Bool.and_eq_true, decide_eq_true_eq] at fb
  obtain ⟨⟨⟨⟨⟨f1, f2⟩, f3⟩, f4⟩, f5⟩, f6⟩ := fb
  refine ht_of (e := E_J6_bitCount_0f7a4) rfl (?_ : EvI X E_J6_bitCount_0f7a4 (0, [some (.inl (n : Int))], [], M) _)
  refine seg_ok 8 (⟨sml_i f1, ?_⟩ : ((-2147483648 : Int) ≤ ((n : Int) - (andI (ushI (n : Int) 1) 1431655765)) ∧ ((n : Int) - (andI (ushI (n : Int) 1) 1431655765)) < 2147483648) ∧ EvI X E_J6_bitCount_0f7a4 (10, [some (.inl ((n : Int) - (andI (ushI (n : Int) 1) 1431655765)))], [], M) _)
  show EvI X E_J6_bitCount_0f7a4 (10, [some (.inl (bc1 (n : Int)))], [], M) _
  refine seg_ok 10 (⟨sml_i f2, ?_⟩ : ((-2147483648 : Int) ≤ ((andI (bc1 (n : Int)) 858993459) + (andI (ushI (bc1 (n : Int)) 2) 858993459)) ∧ ((andI (bc1 (n : Int)) 858993459) + (andI (ushI (bc1 (n : Int)) 2) 858993459)) < 2147483648) ∧ EvI X E_J6_bitCount_0f7a4 (24, [some (.inl ((andI (bc1 (n : Int)) 858993459) + (andI (ushI (bc1 (n : Int)) 2) 858993459)))], [], M) _)
  show EvI X E_J6_bitCount_0f7a4 (24, [some (.inl (bc2 (bc1 (n : Int))))], [], M) _
  refine seg_ok 8 (⟨sml_i f3, ?_⟩ : ((-2147483648 : Int) ≤ ((bc2 (bc1 (n : Int))) + (ushI (bc2 (bc1 (n : Int))) 4)) ∧ ((bc2 (bc1 (n : Int))) + (ushI (bc2 (bc1 (n : Int))) 4)) < 2147483648) ∧ EvI X E_J6_bitCount_0f7a4 (34, [some (.inl (andI ((bc2 (bc1 (n : Int))) + (ushI (bc2 (bc1 (n : Int))) 4)) 252645135))], [], M) _)
  show EvI X E_J6_bitCount_0f7a4 (34, [some (.inl (bc3 (bc2 (bc1 (n : Int)))))], [], M) _
  refine seg_ok 6 (⟨sml_i f4, ?_⟩ : ((-2147483648 : Int) ≤ ((bc3 (bc2 (bc1 (n : Int)))) + (ushI (bc3 (bc2 (bc1 (n : Int)))) 8)) ∧ ((bc3 (bc2 (bc1 (n : Int)))) + (ushI (bc3 (bc2 (bc1 (n : Int)))) 8)) < 2147483648) ∧ EvI X E_J6_bitCount_0f7a4 (41, [some (.inl ((bc3 (bc2 (bc1 (n : Int)))) + (ushI (bc3 (bc2 (bc1 (n : Int)))) 8)))], [], M) _)
  show EvI X E_J6_bitCount_0f7a4 (41, [some (.inl (bc4 (bc3 (bc2 (bc1 (n : Int))))))], [], M) _
  refine seg_ok 6 (⟨sml_i f5, ?_⟩ : ((-2147483648 : Int) ≤ ((bc4 (bc3 (bc2 (bc1 (n : Int))))) + (ushI (bc4 (bc3 (bc2 (bc1 (n : Int))))) 16)) ∧ ((bc4 (bc3 (bc2 (bc1 (n : Int))))) + (ushI (bc4 (bc3 (bc2 (bc1 (n : Int))))) 16)) < 2147483648) ∧ EvI X E_J6_bitCount_0f7a4 (48, [some (.inl ((bc4 (bc3 (bc2 (bc1 (n : Int))))) + (ushI (bc4 (bc3 (bc2 (bc1 (n : Int))))) 16)))], [], M) _)
  show EvI X E_J6_bitCount_0f7a4 (48, [some (.inl (bc5 (bc4 (bc3 (bc2 (bc1 (n : Int)))))))], [], M) _
  refine seg_ok 3 (?_ : EvI X E_J6_bitCount_0f7a4 (52, [some (.inl (bc5 (bc4 (bc3 (bc2 (bc1 (n : Int)))))))], [.inl (andI (bc5 (bc4 (bc3 (bc2 (bc1 (n : Int)))))) 63)], M) _)
  refine ev_rt (r := some (.inl (andI (bc5 (bc4 (bc3 (bc2 (bc1 (n : Int)))))) 63))) rfl (?_)
  exact ⟨rint f6, rfl⟩
theorem d_usableIn {m : Int} {M : NM} {j : Int} (hI : Inv m (sl M j)) {b : Int} (h1 : 0 ≤ b ∧ b < M 1 j 0 3) : HT X z_X1_usableIn [.inr (.inr (some (1, j, 0))), .inl b] M (fun rr MM => rr = some (.inl (ct (sl M j) b (fr (sl M j)))) ∧ MM = M) := by
  have hi := hI.1
  simp only [Iv0, sl] at hi
  have hb := hI.2.1 b h1.1 h1.2
  simp only [sl] at hb
  refine ht_of (e := E_X1_usableIn) rfl (?_ : EvI X E_X1_usableIn (0, [some (.inr (.inr (some (1, j, 0)))), some (.inl b), none, none, none], [], M) _)
  refine seg_ok 2 (?_ : EvI X E_X1_usableIn (2, [some (.inr (.inr (some (1, j, 0)))), some (.inl b), none, none, none], [.inl b, .inr (.inr (some (1, j, 0)))], M) _)
  refine ev_clp (v := .inr (.inr (some (0, j, b)))) (z := z_X1_blockAt) (as := [.inr (.inr (some (1, j, 0))), .inl b]) (rest := []) rfl (d_blockAt_t (by omega) (by omega)) (?_ : EvI X E_X1_usableIn (5, [some (.inr (.inr (some (1, j, 0)))), some (.inl b), none, none, none], [.inr (.inr (some (0, j, b)))], M) _)
  refine seg_ok 5 (?_ : EvI X E_X1_usableIn (11, [some (.inr (.inr (some (1, j, 0)))), some (.inl b), some (.inr (.inr (some (0, j, b)))), some (.inl 0), some (.inl 0)], [], M) _)
  have L11 : ∀ (m11 : Nat) (n r : Int), M 0 j b 0 - r < (m11 : Int) → (0 ≤ r) → (r ≤ M 0 j b 0) → (n = sm (fun r => ctR (fr (sl M j)) (100 * b + 10 * r) (M 0 j b 1).toNat) r.toNat) → EvI X E_X1_usableIn (11, [some (.inr (.inr (some (1, j, 0)))), some (.inl b), some (.inr (.inr (some (0, j, b)))), some (.inl n), some (.inl r)], [], M) (fun rr MM => rr = some (.inl (ct (sl M j) b (fr (sl M j)))) ∧ MM = M) := by
    intro m11
    induction m11 with
    | zero => intro n r hm11 q1 q2 q3; exact absurd hm11 (by omega)
    | succ m11 ih11 =>
      intro n r hm11 q1 q2 q3
      subst q3
      have g1 := ctS_bnd (fr (sl M j)) b (C := (M 0 j b 1).toNat) (by omega) r.toNat
      have g2 := pop_mk (opn (sl M j) (100 * b + 10 * r)) (C := (M 0 j b 1).toNat) (by omega)
      rw [ctR_opn (by omega)] at g2
      have g3 := ctR_bnd (fr (sl M j)) (100 * b + 10 * r) (M 0 j b 1).toNat
      refine seg_ok 6 (?_ : EvI X E_X1_usableIn (if r < (M 0 j b 0) then 24 else 44, [some (.inr (.inr (some (1, j, 0)))), some (.inl b), some (.inr (.inr (some (0, j, b)))), some (.inl (sm (fun r => ctR (fr (sl M j)) (100 * b + 10 * r) (M 0 j b 1).toNat) r.toNat)), some (.inl r)], [], M) _)
      refine ev_if (fun h21 => ?_) (fun h21 => ?_)
      · refine seg_ok 5 (?_ : EvI X E_X1_usableIn (30, [some (.inr (.inr (some (1, j, 0)))), some (.inl b), some (.inr (.inr (some (0, j, b)))), some (.inl (sm (fun r => ctR (fr (sl M j)) (100 * b + 10 * r) (M 0 j b 1).toNat) r.toNat)), some (.inl r)], [.inl r, .inl b, .inr (.inr (some (0, j, b))), .inr (.inr (some (1, j, 0))), .inl (sm (fun r => ctR (fr (sl M j)) (100 * b + 10 * r) (M 0 j b 1).toNat) r.toNat)], M) _)
        refine ev_clp (v := .inl ((mkN (opn (sl M j) (100 * b + 10 * r)) (M 0 j b 1).toNat : Nat))) (z := z_X1_usableInRow) (as := [.inr (.inr (some (1, j, 0))), .inr (.inr (some (0, j, b))), .inl b, .inl r]) (rest := [.inl (sm (fun r => ctR (fr (sl M j)) (100 * b + 10 * r) (M 0 j b 1).toNat) r.toNat)]) rfl (d_usableInRow (Iw_of hI) (by omega) (by omega)) (?_ : EvI X E_X1_usableIn (33, [some (.inr (.inr (some (1, j, 0)))), some (.inl b), some (.inr (.inr (some (0, j, b)))), some (.inl (sm (fun r => ctR (fr (sl M j)) (100 * b + 10 * r) (M 0 j b 1).toNat) r.toNat)), some (.inl r)], [.inl ((mkN (opn (sl M j) (100 * b + 10 * r)) (M 0 j b 1).toNat : Nat)), .inl (sm (fun r => ctR (fr (sl M j)) (100 * b + 10 * r) (M 0 j b 1).toNat) r.toNat)], M) _)
        refine ev_clp (v := .inl ((pop10 (mkN (opn (sl M j) (100 * b + 10 * r)) (M 0 j b 1).toNat) : Nat) : Int)) (z := z_J6_bitCount_0f7a4) (as := [.inl ((mkN (opn (sl M j) (100 * b + 10 * r)) (M 0 j b 1).toNat : Nat))]) (rest := [.inl (sm (fun r => ctR (fr (sl M j)) (100 * b + 10 * r) (M 0 j b 1).toNat) r.toNat)]) rfl (d_bitCount (mkN_1024 _ (by omega))) (?_ : EvI X E_X1_usableIn (36, [some (.inr (.inr (some (1, j, 0)))), some (.inl b), some (.inr (.inr (some (0, j, b)))), some (.inl (sm (fun r => ctR (fr (sl M j)) (100 * b + 10 * r) (M 0 j b 1).toNat) r.toNat)), some (.inl r)], [.inl ((pop10 (mkN (opn (sl M j) (100 * b + 10 * r)) (M 0 j b 1).toNat) : Nat) : Int), .inl (sm (fun r => ctR (fr (sl M j)) (100 * b + 10 * r) (M 0 j b 1).toNat) r.toNat)], M) _)
        refine seg_ok 4 (⟨by omega, by omega, ?_⟩ : ((-2147483648 : Int) ≤ ((sm (fun r => ctR (fr (sl M j)) (100 * b + 10 * r) (M 0 j b 1).toNat) r.toNat) + ((pop10 (mkN (opn (sl M j) (100 * b + 10 * r)) (M 0 j b 1).toNat) : Nat) : Int)) ∧ ((sm (fun r => ctR (fr (sl M j)) (100 * b + 10 * r) (M 0 j b 1).toNat) r.toNat) + ((pop10 (mkN (opn (sl M j) (100 * b + 10 * r)) (M 0 j b 1).toNat) : Nat) : Int)) < 2147483648) ∧ ((-2147483648 : Int) ≤ (r + 1) ∧ (r + 1) < 2147483648) ∧ EvI X E_X1_usableIn (11, [some (.inr (.inr (some (1, j, 0)))), some (.inl b), some (.inr (.inr (some (0, j, b)))), some (.inl ((sm (fun r => ctR (fr (sl M j)) (100 * b + 10 * r) (M 0 j b 1).toNat) r.toNat) + ((pop10 (mkN (opn (sl M j) (100 * b + 10 * r)) (M 0 j b 1).toNat) : Nat) : Int))), some (.inl (r + 1))], [], M) _)
        refine ih11 ((sm (fun r => ctR (fr (sl M j)) (100 * b + 10 * r) (M 0 j b 1).toNat) r.toNat) + ((pop10 (mkN (opn (sl M j) (100 * b + 10 * r)) (M 0 j b 1).toNat) : Nat) : Int)) (r + 1) (by omega) (by omega) (by omega) (by rw [sm_step q1, g2])
      · refine seg_ok 1 (?_ : EvI X E_X1_usableIn (45, [some (.inr (.inr (some (1, j, 0)))), some (.inl b), some (.inr (.inr (some (0, j, b)))), some (.inl (sm (fun r => ctR (fr (sl M j)) (100 * b + 10 * r) (M 0 j b 1).toNat) r.toNat)), some (.inl r)], [.inl (sm (fun r => ctR (fr (sl M j)) (100 * b + 10 * r) (M 0 j b 1).toNat) r.toNat)], M) _)
        refine ev_rt (r := some (.inl (sm (fun r => ctR (fr (sl M j)) (100 * b + 10 * r) (M 0 j b 1).toNat) r.toNat))) rfl (?_)
        exact ⟨rint (by rw [show r = M 0 j b 0 by omega]; rfl), rfl⟩
  refine L11 ((M 0 j b 0 - 0) + 1 : Int).toNat 0 0 (by omega) (by omega) (by omega) rfl
theorem d_hasRoom {M : NM} {u f n : Int} (hn : 1 ≤ n ∧ n ≤ 10) : HT X z_X1_hasRoom [.inl u, .inl f, .inl n] M (fun rr MM => rr = some (.inl (bi (andI (shrI u f) (shlI 1 n - 1) = shlI 1 n - 1))) ∧ MM = M) := by
  have k := shl1_r (n := n) (by omega)
  refine ht_of (e := E_X1_hasRoom) rfl (?_ : EvI X E_X1_hasRoom (0, [some (.inl u), some (.inl f), some (.inl n), none], [], M) _)
  refine seg_ok 13 (⟨by omega, ?_⟩ : ((-2147483648 : Int) ≤ ((shlI 1 n) - 1) ∧ ((shlI 1 n) - 1) < 2147483648) ∧ EvI X E_X1_hasRoom (if (andI (shrI u f) ((shlI 1 n) - 1)) = ((shlI 1 n) - 1) then 15 else 19, [some (.inl u), some (.inl f), some (.inl n), some (.inl ((shlI 1 n) - 1))], [], M) _)
  refine ev_if (fun h12 => ?_) (fun h12 => ?_)
  · refine seg_ok 2 (?_ : EvI X E_X1_hasRoom (20, [some (.inl u), some (.inl f), some (.inl n), some (.inl ((shlI 1 n) - 1))], [.inl 1], M) _)
    refine ev_rt (r := some (.inl 1)) rfl (⟨by decide, ?_⟩)
    exact ⟨rint (is1 (h12)), rfl⟩
  · refine seg_ok 1 (?_ : EvI X E_X1_hasRoom (20, [some (.inl u), some (.inl f), some (.inl n), some (.inl ((shlI 1 n) - 1))], [.inl 0], M) _)
    refine ev_rt (r := some (.inl 0)) rfl (⟨by decide, ?_⟩)
    exact ⟨rint (is0 (h12)), rfl⟩
theorem d_leftAlone {M : NM} {u f n : Int} (hn : 0 ≤ n ∧ n ≤ 100) (hf : 0 ≤ f ∧ f ≤ 100) : HT X z_X1_leftAlone [.inl u, .inl f, .inl n] M (fun rr MM => rr = some (.inl (bi (andI (shrI (shlI u 2) f) 3 = 2) + bi (andI (shrI u (f + n)) 3 = 1))) ∧ MM = M) := by
  refine ht_of (e := E_X1_leftAlone) rfl (?_ : EvI X E_X1_leftAlone (0, [some (.inl u), some (.inl f), some (.inl n), none, none, none], [], M) _)
  refine seg_ok 19 (⟨by omega, ?_⟩ : ((-2147483648 : Int) ≤ (f + n) ∧ (f + n) < 2147483648) ∧ EvI X E_X1_leftAlone (if (andI (shrI (shlI u 2) f) 3) = 2 then 22 else 26, [some (.inl u), some (.inl f), some (.inl n), some (.inl (andI (shrI (shlI u 2) f) 3)), some (.inl (andI (shrI u (f + n)) 3)), none], [], M) _)
  refine ev_if (fun h19 => ?_) (fun h19 => ?_)
  · refine seg_ok 6 (?_ : EvI X E_X1_leftAlone (if (andI (shrI u (f + n)) 3) = 1 then 35 else 42, [some (.inl u), some (.inl f), some (.inl n), some (.inl (andI (shrI (shlI u 2) f) 3)), some (.inl (andI (shrI u (f + n)) 3)), some (.inl 1)], [], M) _)
    refine ev_if (fun h32 => ?_) (fun h32 => ?_)
    · refine seg_ok 4 (⟨by omega, ?_⟩ : ((-2147483648 : Int) ≤ 2 ∧ (2 : Int) < 2147483648) ∧ EvI X E_X1_leftAlone (44, [some (.inl u), some (.inl f), some (.inl n), some (.inl (andI (shrI (shlI u 2) f) 3)), some (.inl (andI (shrI u (f + n)) 3)), some (.inl 1)], [.inl 2], M) _)
      refine ev_rt (r := some (.inl 2)) rfl (?_)
      exact ⟨rint (by rw [bi_t h19, bi_t h32]; rfl), rfl⟩
    · refine seg_ok 1 (?_ : EvI X E_X1_leftAlone (44, [some (.inl u), some (.inl f), some (.inl n), some (.inl (andI (shrI (shlI u 2) f) 3)), some (.inl (andI (shrI u (f + n)) 3)), some (.inl 1)], [.inl 1], M) _)
      refine ev_rt (r := some (.inl 1)) rfl (?_)
      exact ⟨rint (by rw [bi_t h19, bi_f h32]; rfl), rfl⟩
  · refine seg_ok 5 (?_ : EvI X E_X1_leftAlone (if (andI (shrI u (f + n)) 3) = 1 then 35 else 42, [some (.inl u), some (.inl f), some (.inl n), some (.inl (andI (shrI (shlI u 2) f) 3)), some (.inl (andI (shrI u (f + n)) 3)), some (.inl 0)], [], M) _)
    refine ev_if (fun h32 => ?_) (fun h32 => ?_)
    · refine seg_ok 4 (⟨by omega, ?_⟩ : ((-2147483648 : Int) ≤ 1 ∧ (1 : Int) < 2147483648) ∧ EvI X E_X1_leftAlone (44, [some (.inl u), some (.inl f), some (.inl n), some (.inl (andI (shrI (shlI u 2) f) 3)), some (.inl (andI (shrI u (f + n)) 3)), some (.inl 0)], [.inl 1], M) _)
      refine ev_rt (r := some (.inl 1)) rfl (?_)
      exact ⟨rint (by rw [bi_f h19, bi_t h32]; rfl), rfl⟩
    · refine seg_ok 1 (?_ : EvI X E_X1_leftAlone (44, [some (.inl u), some (.inl f), some (.inl n), some (.inl (andI (shrI (shlI u 2) f) 3)), some (.inl (andI (shrI u (f + n)) 3)), some (.inl 0)], [.inl 0], M) _)
      refine ev_rt (r := some (.inl 0)) rfl (?_)
      exact ⟨rint (by rw [bi_f h19, bi_f h32]; rfl), rfl⟩
set_option maxRecDepth 2610 in
theorem d_findPlace {m : Int} {M : NM} {j : Int} (hI : Iw m (sl M j)) {b n : Int} (h1 : 0 ≤ b ∧ b < M 1 j 0 3) (h2 : 1 ≤ n ∧ n ≤ 10) : HT X z_X1_findPlace [.inr (.inr (some (1, j, 0))), .inl b, .inl n] M (fun rr MM => rr = some (.inl (pl (sl M j) b n)) ∧ MM = M) := by
  have hi := hI.1
  simp only [Iv0, sl] at hi
  have hb := hI.2 b h1.1 h1.2
  simp only [sl] at hb
  refine ht_of (e := E_X1_findPlace) rfl (?_ : EvI X E_X1_findPlace (0, [some (.inr (.inr (some (1, j, 0)))), some (.inl b), some (.inl n), none, none, none, none, none, none, none], [], M) _)
  refine seg_ok 2 (?_ : EvI X E_X1_findPlace (2, [some (.inr (.inr (some (1, j, 0)))), some (.inl b), some (.inl n), none, none, none, none, none, none, none], [.inl b, .inr (.inr (some (1, j, 0)))], M) _)
  refine ev_clp (v := .inr (.inr (some (0, j, b)))) (z := z_X1_blockAt) (as := [.inr (.inr (some (1, j, 0))), .inl b]) (rest := []) rfl (d_blockAt_t (by omega) (by omega)) (?_ : EvI X E_X1_findPlace (5, [some (.inr (.inr (some (1, j, 0)))), some (.inl b), some (.inl n), none, none, none, none, none, none, none], [.inr (.inr (some (0, j, b)))], M) _)
  refine seg_ok 4 (?_ : EvI X E_X1_findPlace (11, [some (.inr (.inr (some (1, j, 0)))), some (.inl b), some (.inl n), some (.inr (.inr (some (0, j, b)))), none, none, none, none, none, none], [.inl n], M) _)
  refine ev_clp (v := .inl (bi (1 ≤ n ∧ n ≤ 10))) (z := z_X1_isGroup) (as := [.inl n]) (rest := []) rfl d_isGroup (?_ : EvI X E_X1_findPlace (14, [some (.inr (.inr (some (1, j, 0)))), some (.inl b), some (.inl n), some (.inr (.inr (some (0, j, b)))), none, none, none, none, none, none], [.inl (bi (1 ≤ n ∧ n ≤ 10))], M) _)
  refine seg_ok 1 (?_ : EvI X E_X1_findPlace (if (bi (1 ≤ n ∧ n ≤ 10)) = 0 then 17 else 20, [some (.inr (.inr (some (1, j, 0)))), some (.inl b), some (.inl n), some (.inr (.inr (some (0, j, b)))), none, none, none, none, none, none], [], M) _)
  refine ev_ifb (fun h14 => ?_) (fun h14 => ?_)
  · refine seg_ok 1 (?_ : EvI X E_X1_findPlace (19, [some (.inr (.inr (some (1, j, 0)))), some (.inl b), some (.inl n), some (.inr (.inr (some (0, j, b)))), none, none, none, none, none, none], [.inl (-9)], M) _)
    refine ev_rt (r := some (.inl (-9))) rfl (?_)
    exact absurd h2 h14
  · refine seg_ok 6 (?_ : EvI X E_X1_findPlace (31, [some (.inr (.inr (some (1, j, 0)))), some (.inl b), some (.inl n), some (.inr (.inr (some (0, j, b)))), some (.inl (-9)), some (.inl 10), some (.inl 0), none, none, none], [], M) _)
    have L31 : ∀ (m31 : Nat) (u v r : Int) (d31_7 d31_8 d31_9 : Option U), M 0 j b 0 - r < (m31 : Int) → (0 ≤ r) → (r ≤ M 0 j b 0) → (u = (plR (sl M j) b n 10 r.toNat).1) → (v = (plR (sl M j) b n 10 r.toNat).2) → EvI X E_X1_findPlace (31, [some (.inr (.inr (some (1, j, 0)))), some (.inl b), some (.inl n), some (.inr (.inr (some (0, j, b)))), some (.inl u), some (.inl v), some (.inl r), d31_7, d31_8, d31_9], [], M) (fun rr MM => rr = some (.inl (pl (sl M j) b n)) ∧ MM = M) := by
      intro m31
      induction m31 with
      | zero => intro u v r d31_7 d31_8 d31_9 hm31 q1 q2 q3 q4; exact absurd hm31 (by omega)
      | succ m31 ih31 =>
        intro u v r d31_7 d31_8 d31_9 hm31 q1 q2 q3 q4
        refine seg_ok 4 (?_ : EvI X E_X1_findPlace (if r < (M 0 j b 0) then 40 else 126, [some (.inr (.inr (some (1, j, 0)))), some (.inl b), some (.inl n), some (.inr (.inr (some (0, j, b)))), some (.inl u), some (.inl v), some (.inl r), d31_7, d31_8, d31_9], [], M) _)
        refine ev_if (fun h37 => ?_) (fun h37 => ?_)
        · refine seg_ok 4 (?_ : EvI X E_X1_findPlace (45, [some (.inr (.inr (some (1, j, 0)))), some (.inl b), some (.inl n), some (.inr (.inr (some (0, j, b)))), some (.inl u), some (.inl v), some (.inl r), d31_7, d31_8, d31_9], [.inl r, .inl b, .inr (.inr (some (0, j, b))), .inr (.inr (some (1, j, 0)))], M) _)
          refine ev_clp (v := .inl ((mkN (opn (sl M j) (100 * b + 10 * r)) (M 0 j b 1).toNat : Nat))) (z := z_X1_usableInRow) (as := [.inr (.inr (some (1, j, 0))), .inr (.inr (some (0, j, b))), .inl b, .inl r]) (rest := []) rfl (d_usableInRow hI (by omega) (by omega)) (?_ : EvI X E_X1_findPlace (48, [some (.inr (.inr (some (1, j, 0)))), some (.inl b), some (.inl n), some (.inr (.inr (some (0, j, b)))), some (.inl u), some (.inl v), some (.inl r), d31_7, d31_8, d31_9], [.inl ((mkN (opn (sl M j) (100 * b + 10 * r)) (M 0 j b 1).toNat : Nat))], M) _)
          refine seg_ok 3 (?_ : EvI X E_X1_findPlace (53, [some (.inr (.inr (some (1, j, 0)))), some (.inl b), some (.inl n), some (.inr (.inr (some (0, j, b)))), some (.inl u), some (.inl v), some (.inl r), some (.inl ((mkN (opn (sl M j) (100 * b + 10 * r)) (M 0 j b 1).toNat : Nat))), some (.inl 0), d31_9], [], M) _)
          have L53 : ∀ (m53 : Nat) (u2 v2 c : Int) (d53_9 : Option U), M 0 j b 1 - c < (m53 : Int) → (0 ≤ c) → (c ≤ M 0 j b 1) → (u2 = (plC (sl M j) (100 * b + 10 * r) n (plR (sl M j) b n 10 r.toNat) c.toNat).1) → (v2 = (plC (sl M j) (100 * b + 10 * r) n (plR (sl M j) b n 10 r.toNat) c.toNat).2) → EvI X E_X1_findPlace (53, [some (.inr (.inr (some (1, j, 0)))), some (.inl b), some (.inl n), some (.inr (.inr (some (0, j, b)))), some (.inl u2), some (.inl v2), some (.inl r), some (.inl ((mkN (opn (sl M j) (100 * b + 10 * r)) (M 0 j b 1).toNat : Nat))), some (.inl c), d53_9], [], M) (fun rr MM => rr = some (.inl (pl (sl M j) b n)) ∧ MM = M) := by
            intro m53
            induction m53 with
            | zero => intro u2 v2 c d53_9 hm53 p1 p2 p3 p4; exact absurd hm53 (by omega)
            | succ m53 ih53 =>
              intro u2 v2 c d53_9 hm53 p1 p2 p3 p4
              have hC : ∀ x, opn (sl M j) (100 * b + 10 * r) x → x < ((M 0 j b 1).toNat : Int) := fun x z => by
                have := opn_lt (S := sl M j) h1.1 q1 (by omega) z
                simp only [sl] at this
                omega
              refine seg_ok 6 (⟨by omega, ?_⟩ : ((-2147483648 : Int) ≤ (c + n) ∧ (c + n) < 2147483648) ∧ EvI X E_X1_findPlace (if (M 0 j b 1) < (c + n) then 120 else 64, [some (.inr (.inr (some (1, j, 0)))), some (.inl b), some (.inl n), some (.inr (.inr (some (0, j, b)))), some (.inl u2), some (.inl v2), some (.inl r), some (.inl ((mkN (opn (sl M j) (100 * b + 10 * r)) (M 0 j b 1).toNat : Nat))), some (.inl c), d53_9], [], M) _)
              refine ev_if (fun h61 => ?_) (fun h61 => ?_)
              · have pst := plC_stop (S := sl M j) (row := 100 * b + 10 * r) (n := n) (p := plR (sl M j) b n 10 r.toNat) (c := c.toNat) (fun c2 hc2 z => by
                  have := opn_lt (S := sl M j) h1.1 q1 (by omega) (z (n - 1) (by omega) (by omega))
                  simp only [sl] at this
                  omega) ((M 0 j b 1).toNat - c.toNat)
                rw [show c.toNat + ((M 0 j b 1).toNat - c.toNat) = (M 0 j b 1).toNat by omega] at pst
                refine seg_ok 2 (⟨by omega, ?_⟩ : ((-2147483648 : Int) ≤ (r + 1) ∧ (r + 1) < 2147483648) ∧ EvI X E_X1_findPlace (31, [some (.inr (.inr (some (1, j, 0)))), some (.inl b), some (.inl n), some (.inr (.inr (some (0, j, b)))), some (.inl u2), some (.inl v2), some (.inl (r + 1)), some (.inl ((mkN (opn (sl M j) (100 * b + 10 * r)) (M 0 j b 1).toNat : Nat))), some (.inl c), d53_9], [], M) _)
                refine ih31 u2 v2 (r + 1) (some (.inl ((mkN (opn (sl M j) (100 * b + 10 * r)) (M 0 j b 1).toNat : Nat)))) (some (.inl c)) d53_9 (by omega) (by omega) (by omega) (by rw [plR_step q1]; exact p3.trans (by rw [← pst])) (by rw [plR_step q1]; exact p4.trans (by rw [← pst]))
              · refine seg_ok 3 (?_ : EvI X E_X1_findPlace (69, [some (.inr (.inr (some (1, j, 0)))), some (.inl b), some (.inl n), some (.inr (.inr (some (0, j, b)))), some (.inl u2), some (.inl v2), some (.inl r), some (.inl ((mkN (opn (sl M j) (100 * b + 10 * r)) (M 0 j b 1).toNat : Nat))), some (.inl c), d53_9], [.inl n, .inl c, .inl ((mkN (opn (sl M j) (100 * b + 10 * r)) (M 0 j b 1).toNat : Nat))], M) _)
                refine ev_clp (v := .inl (bi (andI (shrI ((mkN (opn (sl M j) (100 * b + 10 * r)) (M 0 j b 1).toNat : Nat)) c) (shlI 1 n - 1) = shlI 1 n - 1))) (z := z_X1_hasRoom) (as := [.inl ((mkN (opn (sl M j) (100 * b + 10 * r)) (M 0 j b 1).toNat : Nat)), .inl c, .inl n]) (rest := []) rfl (d_hasRoom (by omega)) (?_ : EvI X E_X1_findPlace (72, [some (.inr (.inr (some (1, j, 0)))), some (.inl b), some (.inl n), some (.inr (.inr (some (0, j, b)))), some (.inl u2), some (.inl v2), some (.inl r), some (.inl ((mkN (opn (sl M j) (100 * b + 10 * r)) (M 0 j b 1).toNat : Nat))), some (.inl c), d53_9], [.inl (bi (andI (shrI ((mkN (opn (sl M j) (100 * b + 10 * r)) (M 0 j b 1).toNat : Nat)) c) (shlI 1 n - 1) = shlI 1 n - 1))], M) _)
                refine seg_ok 1 (?_ : EvI X E_X1_findPlace (if (bi (andI (shrI ((mkN (opn (sl M j) (100 * b + 10 * r)) (M 0 j b 1).toNat : Nat)) c) (shlI 1 n - 1) = shlI 1 n - 1)) = 0 then 75 else 78, [some (.inr (.inr (some (1, j, 0)))), some (.inl b), some (.inl n), some (.inr (.inr (some (0, j, b)))), some (.inl u2), some (.inl v2), some (.inl r), some (.inl ((mkN (opn (sl M j) (100 * b + 10 * r)) (M 0 j b 1).toNat : Nat))), some (.inl c), d53_9], [], M) _)
                refine ev_ifb (fun h72 => ?_) (fun h72 => ?_)
                · refine seg_ok 3 (⟨by omega, ?_⟩ : ((-2147483648 : Int) ≤ (c + 1) ∧ (c + 1) < 2147483648) ∧ EvI X E_X1_findPlace (53, [some (.inr (.inr (some (1, j, 0)))), some (.inl b), some (.inl n), some (.inr (.inr (some (0, j, b)))), some (.inl u2), some (.inl v2), some (.inl r), some (.inl ((mkN (opn (sl M j) (100 * b + 10 * r)) (M 0 j b 1).toNat : Nat))), some (.inl (c + 1)), d53_9], [], M) _)
                  refine ih53 u2 v2 (c + 1) d53_9 (by omega) (by omega) (by omega) (by rw [plC_step p1, cA_1 (fun z => h72 ((hr_iff hC (by omega) p1 (by omega) (by omega)).mpr z))]; exact p3) (by rw [plC_step p1, cA_1 (fun z => h72 ((hr_iff hC (by omega) p1 (by omega) (by omega)).mpr z))]; exact p4)
                · refine seg_ok 3 (?_ : EvI X E_X1_findPlace (83, [some (.inr (.inr (some (1, j, 0)))), some (.inl b), some (.inl n), some (.inr (.inr (some (0, j, b)))), some (.inl u2), some (.inl v2), some (.inl r), some (.inl ((mkN (opn (sl M j) (100 * b + 10 * r)) (M 0 j b 1).toNat : Nat))), some (.inl c), d53_9], [.inl n, .inl c, .inl ((mkN (opn (sl M j) (100 * b + 10 * r)) (M 0 j b 1).toNat : Nat))], M) _)
                  refine ev_clp (v := .inl (bi (andI (shrI (shlI ((mkN (opn (sl M j) (100 * b + 10 * r)) (M 0 j b 1).toNat : Nat)) 2) c) 3 = 2) + bi (andI (shrI ((mkN (opn (sl M j) (100 * b + 10 * r)) (M 0 j b 1).toNat : Nat)) (c + n)) 3 = 1))) (z := z_X1_leftAlone) (as := [.inl ((mkN (opn (sl M j) (100 * b + 10 * r)) (M 0 j b 1).toNat : Nat)), .inl c, .inl n]) (rest := []) rfl (d_leftAlone (by omega) (by omega)) (?_ : EvI X E_X1_findPlace (86, [some (.inr (.inr (some (1, j, 0)))), some (.inl b), some (.inl n), some (.inr (.inr (some (0, j, b)))), some (.inl u2), some (.inl v2), some (.inl r), some (.inl ((mkN (opn (sl M j) (100 * b + 10 * r)) (M 0 j b 1).toNat : Nat))), some (.inl c), d53_9], [.inl (bi (andI (shrI (shlI ((mkN (opn (sl M j) (100 * b + 10 * r)) (M 0 j b 1).toNat : Nat)) 2) c) 3 = 2) + bi (andI (shrI ((mkN (opn (sl M j) (100 * b + 10 * r)) (M 0 j b 1).toNat : Nat)) (c + n)) 3 = 1))], M) _)
                  refine seg_ok 4 (?_ : EvI X E_X1_findPlace (if (bi (andI (shrI (shlI ((mkN (opn (sl M j) (100 * b + 10 * r)) (M 0 j b 1).toNat : Nat)) 2) c) 3 = 2) + bi (andI (shrI ((mkN (opn (sl M j) (100 * b + 10 * r)) (M 0 j b 1).toNat : Nat)) (c + n)) 3 = 1)) < v2 then 95 else 114, [some (.inr (.inr (some (1, j, 0)))), some (.inl b), some (.inl n), some (.inr (.inr (some (0, j, b)))), some (.inl u2), some (.inl v2), some (.inl r), some (.inl ((mkN (opn (sl M j) (100 * b + 10 * r)) (M 0 j b 1).toNat : Nat))), some (.inl c), some (.inl (bi (andI (shrI (shlI ((mkN (opn (sl M j) (100 * b + 10 * r)) (M 0 j b 1).toNat : Nat)) 2) c) 3 = 2) + bi (andI (shrI ((mkN (opn (sl M j) (100 * b + 10 * r)) (M 0 j b 1).toNat : Nat)) (c + n)) 3 = 1)))], [], M) _)
                  refine ev_if (fun h92 => ?_) (fun h92 => ?_)
                  · refine seg_ok 14 (⟨by omega, by omega, by omega, by omega, by omega, ?_⟩ : ((-2147483648 : Int) ≤ (b * 100) ∧ (b * 100) < 2147483648) ∧ ((-2147483648 : Int) ≤ (r * 10) ∧ (r * 10) < 2147483648) ∧ ((-2147483648 : Int) ≤ ((b * 100) + (r * 10)) ∧ ((b * 100) + (r * 10)) < 2147483648) ∧ ((-2147483648 : Int) ≤ (((b * 100) + (r * 10)) + c) ∧ (((b * 100) + (r * 10)) + c) < 2147483648) ∧ ((-2147483648 : Int) ≤ (c + 1) ∧ (c + 1) < 2147483648) ∧ EvI X E_X1_findPlace (53, [some (.inr (.inr (some (1, j, 0)))), some (.inl b), some (.inl n), some (.inr (.inr (some (0, j, b)))), some (.inl (((b * 100) + (r * 10)) + c)), some (.inl (bi (andI (shrI (shlI ((mkN (opn (sl M j) (100 * b + 10 * r)) (M 0 j b 1).toNat : Nat)) 2) c) 3 = 2) + bi (andI (shrI ((mkN (opn (sl M j) (100 * b + 10 * r)) (M 0 j b 1).toNat : Nat)) (c + n)) 3 = 1))), some (.inl r), some (.inl ((mkN (opn (sl M j) (100 * b + 10 * r)) (M 0 j b 1).toNat : Nat))), some (.inl (c + 1)), some (.inl (bi (andI (shrI (shlI ((mkN (opn (sl M j) (100 * b + 10 * r)) (M 0 j b 1).toNat : Nat)) 2) c) 3 = 2) + bi (andI (shrI ((mkN (opn (sl M j) (100 * b + 10 * r)) (M 0 j b 1).toNat : Nat)) (c + n)) 3 = 1)))], [], M) _)
                    refine ih53 (((b * 100) + (r * 10)) + c) (bi (andI (shrI (shlI ((mkN (opn (sl M j) (100 * b + 10 * r)) (M 0 j b 1).toNat : Nat)) 2) c) 3 = 2) + bi (andI (shrI ((mkN (opn (sl M j) (100 * b + 10 * r)) (M 0 j b 1).toNat : Nat)) (c + n)) 3 = 1)) (c + 1) (some (.inl (bi (andI (shrI (shlI ((mkN (opn (sl M j) (100 * b + 10 * r)) (M 0 j b 1).toNat : Nat)) 2) c) 3 = 2) + bi (andI (shrI ((mkN (opn (sl M j) (100 * b + 10 * r)) (M 0 j b 1).toNat : Nat)) (c + n)) 3 = 1)))) (by omega) (by omega) (by omega) (by rw [plC_step p1, cA_t ((hr_iff hC (by omega) p1 (by omega) (by omega)).mp h72) (by rw [← p4, ← la_iff hC (by omega) p1 (by omega) (by omega) (by omega)]; exact h92)]; show _ = 100 * b + 10 * r + c; omega) (by rw [plC_step p1, cA_t ((hr_iff hC (by omega) p1 (by omega) (by omega)).mp h72) (by rw [← p4, ← la_iff hC (by omega) p1 (by omega) (by omega) (by omega)]; exact h92)]; exact la_iff hC (by omega) p1 (by omega) (by omega) (by omega))
                  · refine seg_ok 2 (⟨by omega, ?_⟩ : ((-2147483648 : Int) ≤ (c + 1) ∧ (c + 1) < 2147483648) ∧ EvI X E_X1_findPlace (53, [some (.inr (.inr (some (1, j, 0)))), some (.inl b), some (.inl n), some (.inr (.inr (some (0, j, b)))), some (.inl u2), some (.inl v2), some (.inl r), some (.inl ((mkN (opn (sl M j) (100 * b + 10 * r)) (M 0 j b 1).toNat : Nat))), some (.inl (c + 1)), some (.inl (bi (andI (shrI (shlI ((mkN (opn (sl M j) (100 * b + 10 * r)) (M 0 j b 1).toNat : Nat)) 2) c) 3 = 2) + bi (andI (shrI ((mkN (opn (sl M j) (100 * b + 10 * r)) (M 0 j b 1).toNat : Nat)) (c + n)) 3 = 1)))], [], M) _)
                    refine ih53 u2 v2 (c + 1) (some (.inl (bi (andI (shrI (shlI ((mkN (opn (sl M j) (100 * b + 10 * r)) (M 0 j b 1).toNat : Nat)) 2) c) 3 = 2) + bi (andI (shrI ((mkN (opn (sl M j) (100 * b + 10 * r)) (M 0 j b 1).toNat : Nat)) (c + n)) 3 = 1)))) (by omega) (by omega) (by omega) (by rw [plC_step p1, cA_2 (by rw [← p4, ← la_iff hC (by omega) p1 (by omega) (by omega) (by omega)]; exact h92)]; exact p3) (by rw [plC_step p1, cA_2 (by rw [← p4, ← la_iff hC (by omega) p1 (by omega) (by omega) (by omega)]; exact h92)]; exact p4)
          refine L53 ((M 0 j b 1 - 0) + 1 : Int).toNat u v 0 d31_9 (by omega) (by omega) (by omega) q3 q4
        · refine seg_ok 1 (?_ : EvI X E_X1_findPlace (128, [some (.inr (.inr (some (1, j, 0)))), some (.inl b), some (.inl n), some (.inr (.inr (some (0, j, b)))), some (.inl u), some (.inl v), some (.inl r), d31_7, d31_8, d31_9], [.inl u], M) _)
          refine ev_rt (r := some (.inl u)) rfl (?_)
          exact ⟨rint (by rw [q3, show r = M 0 j b 0 by omega]; exact (plR_i0 _).1), rfl⟩
    refine L31 ((M 0 j b 0 - 0) + 1 : Int).toNat (-9) 10 0 none none none (by omega) (by omega) (by omega) rfl rfl
end
