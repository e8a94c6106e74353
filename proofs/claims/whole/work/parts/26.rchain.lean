/-! 26: the reference: moves, chains -/
section
variable {X : XI}
theorem BC_bec {S : Sl} {f n g k : Int} (h : BC S f n) : BC (bec S g k 0) f n := fun c c0 c1 => by
  obtain ⟨a, b, d⟩ := h c c0 c1
  refine ⟨a, ?_, d⟩
  by_cases z : g ≤ c ∧ c < g + k
  · rw [bec_in z.1 z.2]; omega
  · rw [bec_out z]; exact b
theorem mvS_eq {S : Sl} {t b : Int} : mvS S t b = st (st (st (bec (bec S (S 6 t 1) (S 6 t 2) 0) (pl S b (S 6 t 2)) (S 6 t 2) 2) 6 t 1 (pl S b (S 6 t 2))) 6 t 4 (S 6 t 4 + 1)) 5 0 9 (S 5 0 9 + 1) := by
  unfold mvS
  rw [st_bec (K := 6) (by decide)]
theorem mk_set {w : Nat} {t : Int} (hw : w < 1048576) (ht : 0 ≤ t ∧ t < 20) : orI (w : Nat) (shlI 1 t) = ((w ||| 2 ^ t.toNat : Nat) : Int) ∧ w ||| 2 ^ t.toNat < 1048576 ∧ ∀ i : Nat, (w ||| 2 ^ t.toNat).testBit i = true ↔ w.testBit i = true ∨ i = t.toNat := by
  obtain ⟨k, rfl⟩ := Int.eq_ofNat_of_zero_le ht.1
  have hp : 2 ^ k < 2 ^ 20 := Nat.pow_lt_pow_right (by decide) (by omega)
  have h20 : (2 : Nat) ^ 20 = 1048576 := rfl
  rw [Int.toNat_natCast, shl1 (by omega), N_or (by omega) (by omega)]
  refine ⟨rfl, Nat.or_lt_two_pow (n := 20) hw hp, fun i => ?_⟩
  rw [Nat.testBit_or, Bool.or_eq_true, Nat.testBit_two_pow, decide_eq_true_eq]
  exact ⟨fun z => z.imp id Eq.symm, fun z => z.imp id Eq.symm⟩
theorem mk_get {w : Nat} {t : Int} (hw : w < 1048576) (ht : 0 ≤ t ∧ t < 20) : andI (shrI (w : Nat) t) 1 = 0 ↔ ¬ w.testBit t.toNat = true := by
  obtain ⟨k, rfl⟩ := Int.eq_ofNat_of_zero_le ht.1
  have hs : w >>> k ≤ w := by rw [Nat.shiftRight_eq_div_pow]; exact Nat.div_le_self _ _
  rw [Int.toNat_natCast, N_shr (by omega) (by omega), show (1 : Int) = ((1 : Nat) : Int) from rfl, N_and (by omega), Nat.and_one_is_mod, Nat.testBit_eq_decide_div_mod_eq, decide_eq_true_eq, Nat.shiftRight_eq_div_pow]
  omega
set_option maxRecDepth 2430 in
theorem c_moves {m : Int} {M : NM} {S : Sl} (hW : RW m M S) (hm : m + 1 ≤ 62000) {t b : Int} (hM : Mv S b t) : HT X z_X8_moves [.inr (.inr (some (8, 0, 0))), .inl t, .inl b] M (fun rr MM => rr = none ∧ RR (MM 17 0 0) (mvS S t b) ∧ MM 17 0 0 4 = M 17 0 0 4 ∧ F17 M MM) := by
  have hs := hW.1.1
  have hi := hW.2.1
  unfold Iv0 at hi
  obtain ⟨ht, ho, hb, hr, hp⟩ := id hM
  have hh := HO_r hW.2 (HO_t hW.2 ht)
  obtain ⟨pHO, -, -⟩ := pl_HO hW.2 hb hh.2 hp
  have hpp := HO_r hW.2 pHO
  have htt := (hW.2.2.2.2.2.1 t ht.1 ht.2).2
  refine ht_of (e := E_X8_moves) rfl (?_ : EvI X E_X8_moves (0, [some (.inr (.inr (some (8, 0, 0)))), some (.inl t), some (.inl b), none], [], M) _)
  refine seg_ok 5 (?_ : EvI X E_X8_moves (5, [some (.inr (.inr (some (8, 0, 0)))), some (.inl t), some (.inl b), none], [.inl 2, .inl t, .inr (.inr (some (8, 0, 0))), .inl b, .inr (.inr (some (8, 0, 0)))], M) _)
  refine ev_clp (v := .inl (S 6 t 2)) (z := z_X8_ofTicket) (as := [.inr (.inr (some (8, 0, 0))), .inl t, .inl 2]) (rest := [.inl b, .inr (.inr (some (8, 0, 0)))]) rfl (c_ofTicket hW.1 (by omega) (by omega)) (?_ : EvI X E_X8_moves (8, [some (.inr (.inr (some (8, 0, 0)))), some (.inl t), some (.inl b), none], [.inl (S 6 t 2), .inl b, .inr (.inr (some (8, 0, 0)))], M) _)
  refine ev_clp (v := .inl (pl S b (S 6 t 2))) (z := z_X8_placeIn) (as := [.inr (.inr (some (8, 0, 0))), .inl b, .inl (S 6 t 2)]) (rest := []) rfl (c_placeIn hW (by omega) (by omega)) (?_ : EvI X E_X8_moves (11, [some (.inr (.inr (some (8, 0, 0)))), some (.inl t), some (.inl b), none], [.inl (pl S b (S 6 t 2))], M) _)
  refine seg_ok 5 (?_ : EvI X E_X8_moves (16, [some (.inr (.inr (some (8, 0, 0)))), some (.inl t), some (.inl b), some (.inl (pl S b (S 6 t 2)))], [.inl 1, .inl t, .inr (.inr (some (8, 0, 0))), .inr (.inr (some (8, 0, 0)))], M) _)
  refine ev_clp (v := .inl (S 6 t 1)) (z := z_X8_ofTicket) (as := [.inr (.inr (some (8, 0, 0))), .inl t, .inl 1]) (rest := [.inr (.inr (some (8, 0, 0)))]) rfl (c_ofTicket hW.1 (by omega) (by omega)) (?_ : EvI X E_X8_moves (19, [some (.inr (.inr (some (8, 0, 0)))), some (.inl t), some (.inl b), some (.inl (pl S b (S 6 t 2)))], [.inl (S 6 t 1), .inr (.inr (some (8, 0, 0)))], M) _)
  refine seg_ok 3 (?_ : EvI X E_X8_moves (22, [some (.inr (.inr (some (8, 0, 0)))), some (.inl t), some (.inl b), some (.inl (pl S b (S 6 t 2)))], [.inl 2, .inl t, .inr (.inr (some (8, 0, 0))), .inl (S 6 t 1), .inr (.inr (some (8, 0, 0)))], M) _)
  refine ev_clp (v := .inl (S 6 t 2)) (z := z_X8_ofTicket) (as := [.inr (.inr (some (8, 0, 0))), .inl t, .inl 2]) (rest := [.inl (S 6 t 1), .inr (.inr (some (8, 0, 0)))]) rfl (c_ofTicket hW.1 (by omega) (by omega)) (?_ : EvI X E_X8_moves (25, [some (.inr (.inr (some (8, 0, 0)))), some (.inl t), some (.inl b), some (.inl (pl S b (S 6 t 2)))], [.inl (S 6 t 2), .inl (S 6 t 1), .inr (.inr (some (8, 0, 0)))], M) _)
  refine seg_ok 1 (?_ : EvI X E_X8_moves (26, [some (.inr (.inr (some (8, 0, 0)))), some (.inl t), some (.inl b), some (.inl (pl S b (S 6 t 2)))], [.inl 0, .inl (S 6 t 2), .inl (S 6 t 1), .inr (.inr (some (8, 0, 0)))], M) _)
  refine ev_cl (z := z_X8_become) (as := [.inr (.inr (some (8, 0, 0))), .inl (S 6 t 1), .inl (S 6 t 2), .inl 0]) (rest := []) rfl (c_become (hW.1) (BC_of hW.2 (HO_t hW.2 hM.1)) (by omega) (by omega) (by omega)) ?_
  intro rr M1 hqM1
  obtain ⟨rfl, rM1, uM1, gM1⟩ := hqM1
  show EvI X E_X8_moves (29, [some (.inr (.inr (some (8, 0, 0)))), some (.inl t), some (.inl b), some (.inl (pl S b (S 6 t 2)))], [], M1) _
  refine seg_ok 5 (?_ : EvI X E_X8_moves (34, [some (.inr (.inr (some (8, 0, 0)))), some (.inl t), some (.inl b), some (.inl (pl S b (S 6 t 2)))], [.inl 2, .inl t, .inr (.inr (some (8, 0, 0))), .inl (pl S b (S 6 t 2)), .inr (.inr (some (8, 0, 0)))], M1) _)
  refine ev_clp (v := .inl (S 6 t 2)) (z := z_X8_ofTicket) (as := [.inr (.inr (some (8, 0, 0))), .inl t, .inl 2]) (rest := [.inl (pl S b (S 6 t 2)), .inr (.inr (some (8, 0, 0)))]) rfl (c_ofTicket rM1 (by omega) (by omega)) (?_ : EvI X E_X8_moves (37, [some (.inr (.inr (some (8, 0, 0)))), some (.inl t), some (.inl b), some (.inl (pl S b (S 6 t 2)))], [.inl (S 6 t 2), .inl (pl S b (S 6 t 2)), .inr (.inr (some (8, 0, 0)))], M1) _)
  refine seg_ok 1 (?_ : EvI X E_X8_moves (38, [some (.inr (.inr (some (8, 0, 0)))), some (.inl t), some (.inl b), some (.inl (pl S b (S 6 t 2)))], [.inl 2, .inl (S 6 t 2), .inl (pl S b (S 6 t 2)), .inr (.inr (some (8, 0, 0)))], M1) _)
  refine ev_cl (z := z_X8_become) (as := [.inr (.inr (some (8, 0, 0))), .inl (pl S b (S 6 t 2)), .inl (S 6 t 2), .inl 2]) (rest := []) rfl (c_become (rM1) (BC_bec (BC_of hW.2 pHO)) (by omega) (by omega) (by omega)) ?_
  intro rr M2 hqM2
  obtain ⟨rfl, rM2, uM2, gM2⟩ := hqM2
  show EvI X E_X8_moves (41, [some (.inr (.inr (some (8, 0, 0)))), some (.inl t), some (.inl b), some (.inl (pl S b (S 6 t 2)))], [], M2) _
  refine seg_ok 22 (⟨by omega, by omega, by omega, by omega, by omega, by omega, by omega, by omega, ?_⟩ : ((-2147483648 : Int) ≤ (5 * t) ∧ (5 * t) < 2147483648) ∧ ((-2147483648 : Int) ≤ (489 + (5 * t)) ∧ (489 + (5 * t)) < 2147483648) ∧ ((-2147483648 : Int) ≤ ((489 + (5 * t)) + 1) ∧ ((489 + (5 * t)) + 1) < 2147483648) ∧ ((0 : Int) ≤ ((489 + (5 * t)) + 1) ∧ ((489 + (5 * t)) + 1) < 589) ∧ ((-2147483648 : Int) ≤ (5 * t) ∧ (5 * t) < 2147483648) ∧ ((-2147483648 : Int) ≤ (489 + (5 * t)) ∧ (489 + (5 * t)) < 2147483648) ∧ ((-2147483648 : Int) ≤ ((489 + (5 * t)) + 4) ∧ ((489 + (5 * t)) + 4) < 2147483648) ∧ ((0 : Int) ≤ ((489 + (5 * t)) + 4) ∧ ((489 + (5 * t)) + 4) < 589) ∧ EvI X E_X8_moves (71, [some (.inr (.inr (some (8, 0, 0)))), some (.inl t), some (.inl b), some (.inl (pl S b (S 6 t 2)))], [.inl ((wri M2 17 0 0 ((489 + (5 * t)) + 1) (pl S b (S 6 t 2))) 17 0 0 ((489 + (5 * t)) + 4)), .inl ((489 + (5 * t)) + 4), .inr (.inr (some (17, 0, 0)))], (wri M2 17 0 0 ((489 + (5 * t)) + 1) (pl S b (S 6 t 2)))) _)
  rw [show ((wri M2 17 0 0 ((489 + (5 * t)) + 1) (pl S b (S 6 t 2))) 17 0 0 ((489 + (5 * t)) + 4)) = (S 6 t 4) from (wri_nes (by omega)).trans (((rM2).2.2.2.2 t 4 (by omega) (by omega) (by decide) (by decide)).trans rfl)]
  refine seg_ok 8 (⟨by omega, by omega, by omega, ?_⟩ : ((-2147483648 : Int) ≤ ((S 6 t 4) + 1) ∧ ((S 6 t 4) + 1) < 2147483648) ∧ ((0 : Int) ≤ ((489 + (5 * t)) + 4) ∧ ((489 + (5 * t)) + 4) < 589) ∧ ((0 : Int) ≤ 5 ∧ (5 : Int) < 589) ∧ EvI X E_X8_moves (81, [some (.inr (.inr (some (8, 0, 0)))), some (.inl t), some (.inl b), some (.inl (pl S b (S 6 t 2)))], [.inl ((wri (wri M2 17 0 0 ((489 + (5 * t)) + 1) (pl S b (S 6 t 2))) 17 0 0 ((489 + (5 * t)) + 4) ((S 6 t 4) + 1)) 17 0 0 5), .inl 5, .inr (.inr (some (17, 0, 0)))], (wri (wri M2 17 0 0 ((489 + (5 * t)) + 1) (pl S b (S 6 t 2))) 17 0 0 ((489 + (5 * t)) + 4) ((S 6 t 4) + 1))) _)
  rw [show ((wri (wri M2 17 0 0 ((489 + (5 * t)) + 1) (pl S b (S 6 t 2))) 17 0 0 ((489 + (5 * t)) + 4) ((S 6 t 4) + 1)) 17 0 0 5) = (S 5 0 9) from (wri_nes (by omega)).trans ((wri_nes (by omega)).trans ((sc5 (rM2)).trans rfl))]
  refine seg_ok 3 (⟨by omega, by omega, ?_⟩ : ((-2147483648 : Int) ≤ ((S 5 0 9) + 1) ∧ ((S 5 0 9) + 1) < 2147483648) ∧ ((0 : Int) ≤ 5 ∧ (5 : Int) < 589) ∧ EvI X E_X8_moves (84, [some (.inr (.inr (some (8, 0, 0)))), some (.inl t), some (.inl b), some (.inl (pl S b (S 6 t 2)))], [], (wri (wri (wri M2 17 0 0 ((489 + (5 * t)) + 1) (pl S b (S 6 t 2))) 17 0 0 ((489 + (5 * t)) + 4) ((S 6 t 4) + 1)) 17 0 0 5 ((S 5 0 9) + 1))) _)
  refine ev_rt (r := none) rfl (?_)
  show _ ∧ RR ((wri (wri (wri M2 17 0 0 ((489 + (5 * t)) + 1) (pl S b (S 6 t 2))) 17 0 0 ((489 + (5 * t)) + 4) ((S 6 t 4) + 1)) 17 0 0 5 ((S 5 0 9) + 1)) 17 0 0) _ ∧ (wri (wri (wri M2 17 0 0 ((489 + (5 * t)) + 1) (pl S b (S 6 t 2))) 17 0 0 ((489 + (5 * t)) + 4) ((S 6 t 4) + 1)) 17 0 0 5 ((S 5 0 9) + 1)) 17 0 0 4 = M 17 0 0 4 ∧ F17 M (wri (wri (wri M2 17 0 0 ((489 + (5 * t)) + 1) (pl S b (S 6 t 2))) 17 0 0 ((489 + (5 * t)) + 4) ((S 6 t 4) + 1)) 17 0 0 5 ((S 5 0 9) + 1))
  exact ⟨rfl, RR_eq (RR_s5 (RR_tick (RR_tick (rM2) (by omega) (by omega)) (by omega) (by omega))) mvS_eq, u4_wri (u4_wri (u4_wri (u4_tr uM2 (u4_tr uM1 (rfl))) (by omega)) (by omega)) (by omega), F17_wri (F17_wri (F17_wri (F17_tr (F17_tr (F17_rf) gM1) gM2)))⟩
/-- only the row and the mark of those that moved are changed -/
def F8 (M MM : NM) : Prop := (∀ K, K ≠ 17 → K ≠ 8 → MM K = M K) ∧ ∀ j i s, s ≠ 7 → MM 8 j i s = M 8 j i s
theorem F8_17 {M M1 M2 : NM} (h : F8 M M1) (k : F17 M1 M2) : F8 M M2 := ⟨fun K a b => (k K a).trans (h.1 K a b), fun j i s q => by rw [k 8 (by decide)]; exact h.2 j i s q⟩
theorem F8_wri {M M1 : NM} {j i v : Int} (h : F8 M M1) : F8 M (wri M1 8 j i 7 v) := ⟨fun K a b => (wri_K b).trans (h.1 K a b), fun j' i' s q => (wri_nes q).trans (h.2 j' i' s q)⟩
theorem c_follower2 {m : Int} {M : NM} {S : Sl} (hW : RW m M S) {b : Int} (h1 : 0 ≤ b ∧ b < S 1 0 3) {w : Nat} (hm : M 8 0 0 7 = (w : Int)) (hw : w < 1048576) (hk : ∀ t, 0 ≤ t → t < 20 → w.testBit t.toNat = true → rk S b ≤ rk S (S 6 t 1 / 100)) : HT X z_X8_follower [.inr (.inr (some (8, 0, 0))), .inl b] M (fun rr MM => rr = some (.inl (nm S b)) ∧ MM = M) := by
  have e : ff (fun t => S 6 t 0 = 0 ∧ andI (shrI (M 8 0 0 7) t) 1 = 0 ∧ rk S (S 6 t 1 / 100) < rk S b ∧ pl S b (S 6 t 2) ≠ -9) (S 5 0 4).toNat 0 = nm S b := ff_cg _ _ (fun t t0 t1 => by
    have hi := hW.2.1.2.2.2.2.2.1
    rw [hm, mk_get hw ⟨t0, by omega⟩]
    exact ⟨fun z => ⟨z.1, z.2.2.1, z.2.2.2⟩, fun z => ⟨z.1, fun y => by have := hk t t0 (by omega) y; omega, z.2.1, z.2.2⟩⟩)
  rw [← e]
  exact c_follower hW h1
set_option maxRecDepth 1980 in
theorem c_chains {m : Int} {M : NM} {S : Sl} (hW : RW m M S) (hm : m + 20 ≤ 62000) {x : Int} (hx : 0 ≤ x ∧ x < S 5 0 4) (hx0 : S 6 x 0 = 0) : HT X z_X8_chains [.inr (.inr (some (8, 0, 0))), .inl x] M (fun rr MM => rr = some (.inl (opChain S x).1) ∧ RR (MM 17 0 0) (opChain S x).2 ∧ MM 17 0 0 4 = M 17 0 0 4 ∧ F8 M MM) := by
  have hs := hW.1.1
  have hi := hW.2.1
  unfold Iv0 at hi
  have hu := upF_Mv hW.2 hx hx0
  obtain ⟨opC, q0⟩ : ∃ q, opChain S x = q := ⟨_, rfl⟩
  have hst : opC = (0 + (chn S (upF S (S 6 x 1 / 100) (S 6 x 2) (S 1 0 3).toNat) (cif (upF S (S 6 x 1 / 100) (S 6 x 2) (S 1 0 3).toNat = -9) (-9) x) (20 - 0 : Int).toNat).1, (chn S (upF S (S 6 x 1 / 100) (S 6 x 2) (S 1 0 3).toNat) (cif (upF S (S 6 x 1 / 100) (S 6 x 2) (S 1 0 3).toNat = -9) (-9) x) (20 - 0 : Int).toNat).2) := by
    rw [← q0, opChain, cif_f (fun z => z hx0), Int.zero_add]
    by_cases z : upF S (S 6 x 1 / 100) (S 6 x 2) (S 1 0 3).toNat = -9
    · rw [cif_t z, cif_t z, chn_9]
    · rw [cif_f z, cif_f z]; rfl
  refine ht_of (e := E_X8_chains) rfl (?_ : EvI X E_X8_chains (0, [some (.inr (.inr (some (8, 0, 0)))), some (.inl x), none, none, none, none], [], M) _)
  refine seg_ok 9 (?_ : EvI X E_X8_chains (11, [some (.inr (.inr (some (8, 0, 0)))), some (.inl x), some (.inl 0), some (.inl x), none, none], [.inl x, .inr (.inr (some (8, 0, 0)))], (wri M 8 0 0 7 0)) _)
  refine ev_clp (v := .inl (upF S (S 6 x 1 / 100) (S 6 x 2) (S 1 0 3).toNat)) (z := z_X8_better) (as := [.inr (.inr (some (8, 0, 0))), .inl x]) (rest := []) rfl (c_better (m := m) (S := S) ⟨by rw [wri_K (by decide)]; exact hW.1, hW.2⟩ hx) (?_ : EvI X E_X8_chains (14, [some (.inr (.inr (some (8, 0, 0)))), some (.inl x), some (.inl 0), some (.inl x), none, none], [.inl (upF S (S 6 x 1 / 100) (S 6 x 2) (S 1 0 3).toNat)], (wri M 8 0 0 7 0)) _)
  refine seg_ok 1 (?_ : EvI X E_X8_chains (16, [some (.inr (.inr (some (8, 0, 0)))), some (.inl x), some (.inl 0), some (.inl x), some (.inl (upF S (S 6 x 1 / 100) (S 6 x 2) (S 1 0 3).toNat)), none], [], (wri M 8 0 0 7 0)) _)
  have L16 : ∀ (m16 : Nat) (n t to : Int) (Mk : NM) (Sk : Sl) (w : Nat) (d16_5 : Option U), 7 - n < (m16 : Int) → (0 ≤ n ∧ n ≤ 6) → (F8 M Mk) → (RR (Mk 17 0 0) Sk) → (Inv (m + n) Sk) → (opC = (n + (chn Sk to (cif (to = -9) (-9) t) (20 - n).toNat).1, (chn Sk to (cif (to = -9) (-9) t) (20 - n).toNat).2)) → (Mk 17 0 0 4 = M 17 0 0 4) → (to = -9 ∨ ((0 ≤ to ∧ to < Sk 1 0 3) ∧ rk Sk to + n ≤ 6)) → (Mk 8 0 0 7 = (w : Int) ∧ w < 1048576 ∧ (to ≠ -9 → ∀ t2, 0 ≤ t2 → t2 < 20 → w.testBit t2.toNat = true → rk Sk to ≤ rk Sk (Sk 6 t2 1 / 100))) → ((t = -9 ∨ to = -9) ∨ Mv Sk to t) → EvI X E_X8_chains (16, [some (.inr (.inr (some (8, 0, 0)))), some (.inl x), some (.inl n), some (.inl t), some (.inl to), d16_5], [], Mk) (fun rr MM => rr = some (.inl (opChain S x).1) ∧ RR (MM 17 0 0) (opChain S x).2 ∧ MM 17 0 0 4 = M 17 0 0 4 ∧ F8 M MM) := by
    intro m16
    induction m16 with
    | zero => intro n t to Mk Sk w d16_5 hm16 q1 q2 q3 q4 q5 q6 q7 q8 q9; exact absurd hm16 (by omega)
    | succ m16 ih16 =>
      intro n t to Mk Sk w d16_5 hm16 q1 q2 q3 q4 q5 q6 q7 q8 q9
      refine seg_ok 3 (?_ : EvI X E_X8_chains (if t = (-9) then 76 else 22, [some (.inr (.inr (some (8, 0, 0)))), some (.inl x), some (.inl n), some (.inl t), some (.inl to), d16_5], [], Mk) _)
      refine ev_if (fun h19 => ?_) (fun h19 => ?_)
      · have fin : n = (opChain S x).1 ∧ Sk = (opChain S x).2 := by
          rw [q0, q5]
          rw [show cif (to = -9) (-9) t = -9 from (by rw [h19]; by_cases z : to = -9; exact cif_t z; exact cif_f z), chn_9]
          exact ⟨(Int.add_zero n).symm, rfl⟩
        refine seg_ok 1 (?_ : EvI X E_X8_chains (77, [some (.inr (.inr (some (8, 0, 0)))), some (.inl x), some (.inl n), some (.inl t), some (.inl to), d16_5], [.inl n], Mk) _)
        refine ev_rt (r := some (.inl n)) rfl (?_)
        exact ⟨rint fin.1, by rw [← fin.2]; exact q3, q6, q2⟩
      · refine seg_ok 3 (?_ : EvI X E_X8_chains (if to = (-9) then 76 else 29, [some (.inr (.inr (some (8, 0, 0)))), some (.inl x), some (.inl n), some (.inl t), some (.inl to), d16_5], [], Mk) _)
        refine ev_if (fun h26 => ?_) (fun h26 => ?_)
        · have fin : n = (opChain S x).1 ∧ Sk = (opChain S x).2 := by
            rw [q0, q5]
            rw [show cif (to = -9) (-9) t = -9 from cif_t h26, chn_9]
            exact ⟨(Int.add_zero n).symm, rfl⟩
          refine seg_ok 1 (?_ : EvI X E_X8_chains (77, [some (.inr (.inr (some (8, 0, 0)))), some (.inl x), some (.inl n), some (.inl t), some (.inl to), d16_5], [.inl n], Mk) _)
          refine ev_rt (r := some (.inl n)) rfl (?_)
          exact ⟨rint fin.1, by rw [← fin.2]; exact q3, q6, q2⟩
        · have hMv : Mv Sk to t := q9.resolve_left (fun z => z.elim h19 h26)
          have h7 := q7.resolve_left h26
          have hI2 := Inv_move q4 (by omega) hMv
          have hi2 := q4.1
          unfold Iv0 at hi2
          have hL := HO_t q4 hMv.1
          have hL1 : 0 ≤ Sk 6 t 1 / 100 := by have := hL.1; omega
          have hL2 : Sk 6 t 1 / 100 < mvS Sk t to 1 0 3 := hL.2.2.2.1
          have hrk : rk Sk (Sk 6 t 1 / 100) < rk Sk to := hMv.2.2.2.1
          have hrk2 : ∀ y, rk (mvS Sk t to) y = rk Sk y := fun y => rk_cg (fun _ _ => rfl) rfl y
          have hrk3 := rk_r q4 (Sk 6 t 1 / 100)
          have ht2 := hMv.1
          have hw2 := mk_set (w := w) (t := t) q8.2.1 (by omega)
          have hmask : ∀ t2, 0 ≤ t2 → t2 < 20 → (w ||| 2 ^ t.toNat).testBit t2.toNat = true → rk (mvS Sk t to) (Sk 6 t 1 / 100) ≤ rk (mvS Sk t to) (mvS Sk t to 6 t2 1 / 100) := fun t2 a b c => by
            rw [hrk2, hrk2]
            by_cases z : t2 = t
            · rw [z, show mvS Sk t to 6 t 1 = pl Sk to (Sk 6 t 2) from (st_nes (by decide)).trans st_eq, (pl_HO q4 hMv.2.2.1 ⟨hL.2.1, hL.2.2.1⟩ hMv.2.2.2.2).2.1]; omega
            · rw [show mvS Sk t to 6 t2 1 = Sk 6 t2 1 from (st_nei z).trans (st_nei z)]
              have := q8.2.2 h26 t2 a b (((hw2.2.2 t2.toNat).mp c).resolve_right (fun y => z (by omega)))
              omega
          have hrk4 := hrk2 (Sk 6 t 1 / 100)
          refine seg_ok 3 (?_ : EvI X E_X8_chains (32, [some (.inr (.inr (some (8, 0, 0)))), some (.inl x), some (.inl n), some (.inl t), some (.inl to), d16_5], [.inl 1, .inl t, .inr (.inr (some (8, 0, 0)))], Mk) _)
          refine ev_clp (v := .inl (Sk 6 t 1)) (z := z_X8_ofTicket) (as := [.inr (.inr (some (8, 0, 0))), .inl t, .inl 1]) (rest := []) rfl (c_ofTicket q3 (by omega) (by decide)) (?_ : EvI X E_X8_chains (35, [some (.inr (.inr (some (8, 0, 0)))), some (.inl x), some (.inl n), some (.inl t), some (.inl to), d16_5], [.inl (Sk 6 t 1)], Mk) _)
          refine seg_ok 6 (⟨by omega, ?_⟩ : ((0 : Int) ≤ (Sk 6 t 1) ∧ (0 : Int) < 100) ∧ EvI X E_X8_chains (44, [some (.inr (.inr (some (8, 0, 0)))), some (.inl x), some (.inl n), some (.inl t), some (.inl to), some (.inl ((Sk 6 t 1) / 100))], [.inl to, .inl t, .inr (.inr (some (8, 0, 0)))], Mk) _)
          refine ev_cl (z := z_X8_moves) (as := [.inr (.inr (some (8, 0, 0))), .inl t, .inl to]) (rest := []) rfl (c_moves ⟨q3, q4⟩ (by omega) hMv) ?_
          intro rr M1 hqM1
          obtain ⟨rfl, rM1, uM1, gM1⟩ := hqM1
          show EvI X E_X8_chains (47, [some (.inr (.inr (some (8, 0, 0)))), some (.inl x), some (.inl n), some (.inl t), some (.inl to), some (.inl ((Sk 6 t 1) / 100))], [], M1) _
          refine seg_ok 8 (?_ : EvI X E_X8_chains (59, [some (.inr (.inr (some (8, 0, 0)))), some (.inl x), some (.inl n), some (.inl t), some (.inl to), some (.inl ((Sk 6 t 1) / 100))], [], (wri M1 8 0 0 7 (orI (M1 8 0 0 7) (shlI 1 t)))) _)
          have hmk : (wri M1 8 0 0 7 (orI (M1 8 0 0 7) (shlI 1 t))) 8 0 0 7 = ((w ||| 2 ^ t.toNat : Nat) : Int) := wri_eq.trans (by rw [show M1 8 0 0 7 = (w : Int) from (congrFun (congrFun (congrFun (gM1 8 (by decide)) 0) 0) 7).trans q8.1]; exact hw2.1)
          have hR2 : RR ((wri M1 8 0 0 7 (orI (M1 8 0 0 7) (shlI 1 t))) 17 0 0) (mvS Sk t to) := rM1
          refine seg_ok 5 (⟨by omega, ?_⟩ : ((-2147483648 : Int) ≤ (n + 1) ∧ (n + 1) < 2147483648) ∧ EvI X E_X8_chains (69, [some (.inr (.inr (some (8, 0, 0)))), some (.inl x), some (.inl (n + 1)), some (.inl t), some (.inl ((Sk 6 t 1) / 100)), some (.inl ((Sk 6 t 1) / 100))], [.inl ((Sk 6 t 1) / 100), .inr (.inr (some (8, 0, 0)))], (wri M1 8 0 0 7 (orI (M1 8 0 0 7) (shlI 1 t)))) _)
          refine ev_clp (v := .inl (nm (mvS Sk t to) (Sk 6 t 1 / 100))) (z := z_X8_follower) (as := [.inr (.inr (some (8, 0, 0))), .inl ((Sk 6 t 1) / 100)]) (rest := []) rfl (c_follower2 (m := m + n + 1) (w := w ||| 2 ^ t.toNat) ⟨hR2, hI2⟩ ⟨hL1, hL2⟩ hmk hw2.2.1 hmask) (?_ : EvI X E_X8_chains (72, [some (.inr (.inr (some (8, 0, 0)))), some (.inl x), some (.inl (n + 1)), some (.inl t), some (.inl ((Sk 6 t 1) / 100)), some (.inl ((Sk 6 t 1) / 100))], [.inl (nm (mvS Sk t to) (Sk 6 t 1 / 100))], (wri M1 8 0 0 7 (orI (M1 8 0 0 7) (shlI 1 t)))) _)
          refine seg_ok 2 (?_ : EvI X E_X8_chains (16, [some (.inr (.inr (some (8, 0, 0)))), some (.inl x), some (.inl (n + 1)), some (.inl (nm (mvS Sk t to) (Sk 6 t 1 / 100))), some (.inl ((Sk 6 t 1) / 100)), some (.inl ((Sk 6 t 1) / 100))], [], (wri M1 8 0 0 7 (orI (M1 8 0 0 7) (shlI 1 t)))) _)
          refine ih16 (n + 1) (nm (mvS Sk t to) (Sk 6 t 1 / 100)) ((Sk 6 t 1) / 100) (wri M1 8 0 0 7 (orI (M1 8 0 0 7) (shlI 1 t))) (mvS Sk t to) (w ||| 2 ^ t.toNat) (some (.inl ((Sk 6 t 1) / 100))) (by omega) (by omega) (F8_wri (F8_17 q2 gM1)) hR2 (by rw [show m + (n + 1) = m + n + 1 by omega]; exact hI2) (by
      rw [show (20 - n).toNat = (20 - (n + 1)).toNat + 1 by omega, cif_f h26, chn, cif_f h19] at q5
      rw [q5, cif_f (show ¬ Sk 6 t 1 / 100 = -9 by omega)]; exact Prod.ext acc4 rfl) (uM1.trans q6) (Or.inr ⟨⟨hL1, hL2⟩, by omega⟩) ⟨hmk, hw2.2.1, fun _ t2 a b c => hmask t2 a b c⟩ ((nm_Mv (by have := hI2.1.2.2.2.2.2.1; omega) ⟨hL1, hL2⟩).imp Or.inl id)
  refine L16 ((7 - 0) + 1 : Int).toNat 0 x (upF S (S 6 x 1 / 100) (S 6 x 2) (S 1 0 3).toNat) (wri M 8 0 0 7 0) S 0 none (by omega) (by omega) (F8_wri ⟨fun _ _ _ => rfl, fun _ _ _ _ => rfl⟩) hW.1 (by rw [Int.add_zero]; exact hW.2) hst rfl (hu.imp id (fun z => ⟨z.2.2.1, by have := rk_r hW.2 (upF S (S 6 x 1 / 100) (S 6 x 2) (S 1 0 3).toNat); omega⟩)) ⟨wri_eq, by decide, fun _ t2 a b c => by simp at c⟩ (hu.imp Or.inr id)
end
