/-! 44: the class: all orders of a program -/
def FM (M MM : NM) : Prop := (∀ x, x ≠ 3 → x ≠ 4 → MM 4 0 0 x = M 4 0 0 x) ∧ ∀ K, K ≠ 4 → K ≠ 16 → ∀ j i x, (j ≠ 0 ∨ ¬ stK K) → MM K j i x = M K j i x
theorem FM_tr {M M1 M2 : NM} (h : FM M M1) (k : FM M1 M2) : FM M M2 := ⟨fun x a b => (k.1 x a b).trans (h.1 x a b), fun K a b j i x q => (k.2 K a b j i x q).trans (h.2 K a b j i x q)⟩
theorem FM_rd {M MM : NM} (h : ∀ K, K ≠ 4 → MM K = M K) (k : ∀ x, x ≠ 3 → x ≠ 4 → MM 4 0 0 x = M 4 0 0 x) : FM M MM := ⟨k, fun K a _ j i x _ => by rw [h K a]⟩
theorem FM_L {M MM : NM} {L : Int} (h : FM M MM) (hL : M 4 0 0 2 = L) : MM 4 0 0 2 = L := (h.1 2 (by decide) (by decide)).trans hL
theorem FM_T {M MM : NM} {L : Int} {T : Int → Int} (h : FM M MM) (hT : ∀ k, 0 ≤ k → k < L → M 15 0 0 k = T k) : ∀ k, 0 ≤ k → k < L → MM 15 0 0 k = T k := fun k a b => (h.2 15 (by decide) (by decide) 0 0 k (Or.inr (by unfold stK; omega))).trans (hT k a b)
theorem rd_SQ {M MM : NM} (h : ∀ K, K ≠ 4 → MM K = M K) : SQ (sl M 0) (sl MM 0) := fun K q => by
  funext i x
  show MM K 0 i x = M K 0 i x
  rw [h K (by unfold stK at q; omega)]
section
variable {X : XI}
theorem d_runOn {m : Int} {M : NM} {T : Int → Int} {L : Int} (hL : M 4 0 0 2 = L) (hL2 : 0 ≤ L ∧ L ≤ 120) (hT : ∀ k, 0 ≤ k → k < L → M 15 0 0 k = T k) (hI : Inv m (sl M 0)) (hm : m + 120 ≤ 62000) : HT X z_X4_runOn [.inr (.inr (some (4, 0, 0))), .inr (.inr (some (5, 0, 0)))] M (fun rr MM => rr = some (.inl (prgN T L 120 (sk T L 0) (sl M 0) 0).1) ∧ (0 ≤ (prgN T L 120 (sk T L 0) (sl M 0) 0).1 → SQ (prgN T L 120 (sk T L 0) (sl M 0) 0).2 (sl MM 0) ∧ Inv (m + 120) (sl MM 0)) ∧ FM M MM) := by
  refine ht_of (e := E_X4_runOn) rfl (?_ : EvI X E_X4_runOn (0, [some (.inr (.inr (some (4, 0, 0)))), some (.inr (.inr (some (5, 0, 0)))), none, none], [], M) _)
  refine seg_ok 8 (?_ : EvI X E_X4_runOn (10, [some (.inr (.inr (some (4, 0, 0)))), some (.inr (.inr (some (5, 0, 0)))), some (.inl 0), some (.inl (-1))], [.inr (.inr (some (4, 0, 0)))], (wri M 4 0 0 4 0)) _)
  refine ev_cl (z := z_X4_readToken) (as := [.inr (.inr (some (4, 0, 0)))]) (rest := []) rfl (d_readToken (T := T) (L := L) ((wri_nes (by decide)).trans hL) hL2 (fun k a b => by rw [wri_K (by decide)]; exact hT k a b) (by rw [wri_eq]; omega)) ?_
  intro rr M1 hq
  obtain ⟨rfl, r1, r2, r3, r4⟩ := hq
  rw [wri_eq] at r1 r2
  have rF : FM M M1 := FM_rd (fun K k => (r3 K k).trans (wri_K k)) (fun x a b => (r4 x a b).trans (wri_nes b))
  have rQ : SQ (sl M 0) (sl M1 0) := rd_SQ (fun K k => (r3 K k).trans (wri_K k))
  show EvI X E_X4_runOn (13, [some (.inr (.inr (some (4, 0, 0)))), some (.inr (.inr (some (5, 0, 0)))), some (.inl 0), some (.inl (-1))], [], M1) _
  have k0 := sk_r (T := T) (L := L) _ 0 rfl hL2.1
  have k1 := k0.1
  have k2 := k0.2.1
  have L13 : ∀ (m13 : Nat) (c f : Int) (Mk : NM), 121 - c < (m13 : Int) → (0 ≤ c ∧ c ≤ 120) → (f = -1 → RN T L m (prgN T L 120 (sk T L 0) (sl M 0) 0) c Mk) → (f ≠ -1 → (prgN T L 120 (sk T L 0) (sl M 0) 0).1 = -1000 - f ∧ 0 ≤ f ∧ f ≤ L) → (FM M Mk) → EvI X E_X4_runOn (13, [some (.inr (.inr (some (4, 0, 0)))), some (.inr (.inr (some (5, 0, 0)))), some (.inl c), some (.inl f)], [], Mk) (fun rr MM => rr = some (.inl (prgN T L 120 (sk T L 0) (sl M 0) 0).1) ∧ (0 ≤ (prgN T L 120 (sk T L 0) (sl M 0) 0).1 → SQ (prgN T L 120 (sk T L 0) (sl M 0) 0).2 (sl MM 0) ∧ Inv (m + 120) (sl MM 0)) ∧ FM M MM) := by
    intro m13
    induction m13 with
    | zero => intro c f Mk hm13 a1 a2 a3 a5; exact absurd hm13 (by omega)
    | succ m13 ih13 =>
      intro c f Mk hm13 a1 a2 a3 a5
      refine seg_ok 3 (?_ : EvI X E_X4_runOn (if c < 120 then 19 else 51, [some (.inr (.inr (some (4, 0, 0)))), some (.inr (.inr (some (5, 0, 0)))), some (.inl c), some (.inl f)], [], Mk) _)
      refine ev_if (fun h16 => ?_) (fun h16 => ?_)
      · refine seg_ok 3 (?_ : EvI X E_X4_runOn (if f = (-1) then 24 else 51, [some (.inr (.inr (some (4, 0, 0)))), some (.inr (.inr (some (5, 0, 0)))), some (.inl c), some (.inl f)], [], Mk) _)
        refine ev_if (fun h21 => ?_) (fun h21 => ?_)
        · obtain ⟨s, n, S, e0, e1, e2, e3, e4, e5, eS, eI⟩ := a2 h21
          have eL := FM_L a5 hL
          refine seg_ok 5 (?_ : EvI X E_X4_runOn (if (Mk 4 0 0 3) < (Mk 4 0 0 2) then 35 else 51, [some (.inr (.inr (some (4, 0, 0)))), some (.inr (.inr (some (5, 0, 0)))), some (.inl c), some (.inl f)], [], Mk) _)
          refine ev_if (fun h32 => ?_) (fun h32 => ?_)
          · refine seg_ok 2 (?_ : EvI X E_X4_runOn (37, [some (.inr (.inr (some (4, 0, 0)))), some (.inr (.inr (some (5, 0, 0)))), some (.inl c), some (.inl f)], [.inr (.inr (some (5, 0, 0))), .inr (.inr (some (4, 0, 0)))], Mk) _)
            refine ev_cl (z := z_X4_runOrder) (as := [.inr (.inr (some (4, 0, 0))), .inr (.inr (some (5, 0, 0)))]) (rest := []) rfl (d_runOrder (T := T) (L := L) (s := s) (FM_L a5 hL) hL2 (FM_T a5 hT) ⟨e0.1, by omega⟩ e3 e4 eI (by omega)) ?_
            intro rr M2 hq
            obtain ⟨rfl, x1, x2, x3, x5, x6⟩ := hq
            have xF : FM M M2 := FM_tr a5 ⟨x2, x3⟩
            have oo := OQ_ord (T := T) (L := L) (s := s) eS
            have hor := ordR_r (T := T) (L := L) (s := s) (S := sl Mk 0) e0
            show EvI X E_X4_runOn (40, [some (.inr (.inr (some (4, 0, 0)))), some (.inr (.inr (some (5, 0, 0)))), some (.inl c), some (.inl f)], [.inl ((ordR T L s (sl Mk 0)).1)], M2) _
            refine seg_ok 3 (⟨by omega, ?_⟩ : ((-2147483648 : Int) ≤ (c + 1) ∧ (c + 1) < 2147483648) ∧ EvI X E_X4_runOn (45, [some (.inr (.inr (some (4, 0, 0)))), some (.inr (.inr (some (5, 0, 0)))), some (.inl (c + 1)), some (.inl ((ordR T L s (sl Mk 0)).1))], [.inr (.inr (some (4, 0, 0)))], M2) _)
            refine ev_cl (z := z_X4_readToken) (as := [.inr (.inr (some (4, 0, 0)))]) (rest := []) rfl (d_readToken (T := T) (L := L) (FM_L xF hL) hL2 (FM_T xF hT) x5) ?_
            intro rr M3 hq
            obtain ⟨rfl, r1, r2, r3, r4⟩ := hq
            have yF : FM M M3 := FM_tr xF (FM_rd r3 r4)
            have yQ : SQ (sl M2 0) (sl M3 0) := rd_SQ r3
            show EvI X E_X4_runOn (48, [some (.inr (.inr (some (4, 0, 0)))), some (.inr (.inr (some (5, 0, 0)))), some (.inl (c + 1)), some (.inl ((ordR T L s (sl Mk 0)).1))], [], M3) _
            refine seg_ok 1 (?_ : EvI X E_X4_runOn (13, [some (.inr (.inr (some (4, 0, 0)))), some (.inr (.inr (some (5, 0, 0)))), some (.inl (c + 1)), some (.inl ((ordR T L s (sl Mk 0)).1))], [], M3) _)
            refine ih13 (c + 1) ((ordR T L s (sl Mk 0)).1) M3 (by omega) (by omega) (fun z => ⟨nk T L (ordQ T L s), n - 1, (ordR T L s S).2, (nk_r (ordQ_r e0).1).1, by have := (ordQ_r (T := T) e0).2.2 (by omega); have := (nk_r (T := T) (ordQ_r (T := T) e0).1).2.1; omega, by have := (ordQ_r (T := T) e0).2.2 (by omega); have := (nk_r (T := T) (ordQ_r (T := T) e0).1).2.1; omega, r1.trans (by rw [x6 z]; rfl), r2.trans (by rw [x6 z]; rfl), e5.trans (prgN_s (by omega) e2 (oo.1.symm.trans z)), SQ_tr (SQ_tr oo.2 x1) yQ, by rw [← Int.add_assoc]; exact Inv_SE (Inv_SE (io_ord eI (by omega)) (SQ_SE x1)) (SQ_SE yQ)⟩) (fun z => by rw [e5, prgN_f (by omega) e2 (fun y => z (oo.1.trans y)), ← oo.1]; exact ⟨rfl, by omega, by omega⟩) yF
          · refine seg_ok 3 (?_ : EvI X E_X4_runOn (if f = (-1) then 56 else 60, [some (.inr (.inr (some (4, 0, 0)))), some (.inr (.inr (some (5, 0, 0)))), some (.inl c), some (.inl f)], [], Mk) _)
            refine ev_if (fun h53 => ?_) (fun h53 => ?_)
            · refine seg_ok 2 (?_ : EvI X E_X4_runOn (65, [some (.inr (.inr (some (4, 0, 0)))), some (.inr (.inr (some (5, 0, 0)))), some (.inl c), some (.inl f)], [.inl c], Mk) _)
              refine ev_rt (r := some (.inl c)) rfl (?_)
              have eP := e5.trans (prgN_e (T := T) (S := S) (n := n) (c := c) (by have := FM_L a5 hL; omega))
              exact ⟨rint (by rw [eP]), fun _ => by rw [eP]; exact ⟨eS, Inv_up1 eI (by omega) hm⟩, a5⟩
            · refine seg_ok 3 (⟨by omega, ?_⟩ : ((-2147483648 : Int) ≤ ((-1000) - f) ∧ ((-1000) - f) < 2147483648) ∧ EvI X E_X4_runOn (65, [some (.inr (.inr (some (4, 0, 0)))), some (.inr (.inr (some (5, 0, 0)))), some (.inl c), some (.inl f)], [.inl ((-1000) - f)], Mk) _)
              refine ev_rt (r := some (.inl ((-1000) - f))) rfl (?_)
              exact ⟨rint (a3 h53).1.symm, fun z => by have := a3 h53; omega, a5⟩
        · refine seg_ok 3 (?_ : EvI X E_X4_runOn (if f = (-1) then 56 else 60, [some (.inr (.inr (some (4, 0, 0)))), some (.inr (.inr (some (5, 0, 0)))), some (.inl c), some (.inl f)], [], Mk) _)
          refine ev_if (fun h53 => ?_) (fun h53 => ?_)
          · refine seg_ok 2 (?_ : EvI X E_X4_runOn (65, [some (.inr (.inr (some (4, 0, 0)))), some (.inr (.inr (some (5, 0, 0)))), some (.inl c), some (.inl f)], [.inl c], Mk) _)
            refine ev_rt (r := some (.inl c)) rfl (?_)
            obtain ⟨s, n, S, e0, e1, e2, e3, e4, e5, eS, eI⟩ := a2 h53
            have eP := e5.trans (prgN_e (T := T) (S := S) (n := n) (c := c) (by have := FM_L a5 hL; omega))
            exact ⟨rint (by rw [eP]), fun _ => by rw [eP]; exact ⟨eS, Inv_up1 eI (by omega) hm⟩, a5⟩
          · refine seg_ok 3 (⟨by omega, ?_⟩ : ((-2147483648 : Int) ≤ ((-1000) - f) ∧ ((-1000) - f) < 2147483648) ∧ EvI X E_X4_runOn (65, [some (.inr (.inr (some (4, 0, 0)))), some (.inr (.inr (some (5, 0, 0)))), some (.inl c), some (.inl f)], [.inl ((-1000) - f)], Mk) _)
            refine ev_rt (r := some (.inl ((-1000) - f))) rfl (?_)
            exact ⟨rint (a3 h53).1.symm, fun z => by have := a3 h53; omega, a5⟩
      · refine seg_ok 3 (?_ : EvI X E_X4_runOn (if f = (-1) then 56 else 60, [some (.inr (.inr (some (4, 0, 0)))), some (.inr (.inr (some (5, 0, 0)))), some (.inl c), some (.inl f)], [], Mk) _)
        refine ev_if (fun h53 => ?_) (fun h53 => ?_)
        · refine seg_ok 2 (?_ : EvI X E_X4_runOn (65, [some (.inr (.inr (some (4, 0, 0)))), some (.inr (.inr (some (5, 0, 0)))), some (.inl c), some (.inl f)], [.inl c], Mk) _)
          refine ev_rt (r := some (.inl c)) rfl (?_)
          obtain ⟨s, n, S, e0, e1, e2, e3, e4, e5, eS, eI⟩ := a2 h53
          have eP := e5.trans (prgN_e (T := T) (S := S) (n := n) (c := c) (by have := FM_L a5 hL; omega))
          exact ⟨rint (by rw [eP]), fun _ => by rw [eP]; exact ⟨eS, Inv_up1 eI (by omega) hm⟩, a5⟩
        · refine seg_ok 3 (⟨by omega, ?_⟩ : ((-2147483648 : Int) ≤ ((-1000) - f) ∧ ((-1000) - f) < 2147483648) ∧ EvI X E_X4_runOn (65, [some (.inr (.inr (some (4, 0, 0)))), some (.inr (.inr (some (5, 0, 0)))), some (.inl c), some (.inl f)], [.inl ((-1000) - f)], Mk) _)
          refine ev_rt (r := some (.inl ((-1000) - f))) rfl (?_)
          exact ⟨rint (a3 h53).1.symm, fun z => by have := a3 h53; omega, a5⟩
  refine L13 ((121 - 0) + 1 : Int).toNat 0 (-1) M1 (by omega) (by omega) (fun _ => ⟨sk T L 0, 120, sl M 0, ⟨by omega, k2⟩, k1, by omega, r1, r2, rfl, rQ, by rw [Int.add_zero]; exact Inv_SE hI (SQ_SE rQ)⟩) (fun z => absurd rfl z) rF
end
