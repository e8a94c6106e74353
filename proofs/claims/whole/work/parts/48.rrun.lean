/-! 48: the reference: orders of a program -/
/-- at a token of the reference's text -/
def TR (T : Int → Int) (L : Int) (M MM : NM) (s : Int) : Prop := MM 8 0 0 8 = s ∧ MM 8 0 0 9 = tkE T L s ∧ MM 8 0 0 10 = srt T L s ∧ (∀ x, x ≠ 8 → x ≠ 9 → x ≠ 10 → MM 8 0 0 x = M 8 0 0 x) ∧ ∀ K, K ≠ 8 → K ≠ 21 → MM K = M K
theorem TR_w {T : Int → Int} {L : Int} {M MM : NM} {s : Int} {k v : Int} (h : TR T L M MM s) : TR T L M (wri MM 21 0 0 k v) s := by
  have e : wri MM 21 0 0 k v 8 = MM 8 := wri_K (by decide)
  refine ⟨?_, ?_, ?_, fun x a b c => ?_, fun K a b => (wri_K b).trans (h.2.2.2.2 K a b)⟩
  · rw [e]; exact h.1
  · rw [e]; exact h.2.1
  · rw [e]; exact h.2.2.1
  · rw [e]; exact h.2.2.2.1 x a b c
/-- what an order of the reference leaves -/
def RQ (T : Int → Int) (L : Int) (M : NM) (S : Sl) (s : Int) (rr : Option U) (MM : NM) : Prop := rr = some (.inl (cif ((ordR T L s S).1 = -1) (-9) (ordR T L s S).1)) ∧ RR (MM 17 0 0) (ordR T L s S).2 ∧ MM 17 0 0 4 = M 17 0 0 4 ∧ (∀ x, x ≠ 8 → x ≠ 9 → x ≠ 10 → MM 8 0 0 x = M 8 0 0 x) ∧ (∀ K, K ≠ 8 → K ≠ 17 → K ≠ 21 → MM K = M K) ∧ (0 ≤ MM 8 0 0 9 ∧ MM 8 0 0 9 ≤ L) ∧ ((ordR T L s S).1 = -1 → MM 8 0 0 9 = tkE T L (ordQ T L s))
theorem RQ_tx {T : Int → Int} {L : Int} {M MM : NM} {S : Sl} {s u v : Int} (h : TR T L M MM u) (hu : 0 ≤ u ∧ u ≤ L) (hR : RR (M 17 0 0) S) (e : ordR T L s S = (v, S)) (hv : 0 ≤ v) : RQ T L M S s (some (.inl v)) MM := by
  have t := tk_r (T := T) hu.2
  have e17 : MM 17 = M 17 := h.2.2.2.2 17 (by decide) (by decide)
  unfold RQ
  rw [e]
  refine ⟨rint (cif_f (show ¬ v = -1 by omega)).symm, by rw [e17]; exact hR, by rw [e17], h.2.2.2.1, fun K a b c => h.2.2.2.2 K a c, by rw [h.2.1]; omega, fun z => absurd (show v = -1 from z) (by omega)⟩
theorem RQ_pf {T : Int → Int} {L : Int} {M MM M2 : NM} {S : Sl} {s v w : Int} {R : Int × Sl} (h : TR T L M MM (ordQ T L s)) (hu : 0 ≤ ordQ T L s ∧ ordQ T L s ≤ L) (e : ordR T L s S = (v, (ordX T L s S).2)) (hw : w = cif (v = -1) (-9) v) (eX : ordX T L s S = R) (r : RR (M2 17 0 0) R.2) (u : M2 17 0 0 4 = MM 17 0 0 4) (g : F17 MM M2) : RQ T L M S s (some (.inl w)) M2 := by
  have t := tk_r (T := T) hu.2
  have e4 : M2 8 = MM 8 := g 8 (by decide)
  unfold RQ
  rw [e]
  refine ⟨rint hw, by rw [eX]; exact r, u.trans (congrFun (congrFun (congrFun (h.2.2.2.2 17 (by decide) (by decide)) 0) 0) 4), fun x a b c => by rw [e4]; exact h.2.2.2.1 x a b c, fun K a b c => (g K b).trans (h.2.2.2.2 K a c), by rw [e4, h.2.1]; omega, fun _ => by rw [e4]; exact h.2.1⟩
section
variable {X : XI} {T : Int → Int} {L : Int} {M MM : NM} {s : Int}
theorem TR_L (h : TR T L M MM s) (hL : M 8 0 0 6 = L) : MM 8 0 0 6 = L := (h.2.2.2.1 6 (by decide) (by decide) (by decide)).trans hL
theorem TR_T (h : TR T L M MM s) (hT : ∀ k, 0 ≤ k → k < L → M 20 0 0 k = T k) : ∀ k, 0 ≤ k → k < L → MM 20 0 0 k = T k := fun k a b => by rw [h.2.2.2.2 20 (by decide) (by decide)]; exact hT k a b
theorem c_nextX (hL : M 8 0 0 6 = L) (hL2 : 0 ≤ L ∧ L ≤ 120) (hT : ∀ k, 0 ≤ k → k < L → M 20 0 0 k = T k) (h : TR T L M MM s) (hs : 0 ≤ s ∧ s ≤ L) : HT X z_X8_next [.inr (.inr (some (8, 0, 0)))] MM (fun rr MM' => rr = none ∧ TR T L M MM' (nk T L s) ∧ MM' 21 = MM 21) := by
  have t := tk_r (T := T) hs.2
  refine ht_imp (c_next (T := T) (L := L) (TR_L h hL) hL2 (TR_T h hT) (by rw [h.2.1]; omega)) (fun rr M' q => ?_)
  obtain ⟨q0, q1, q2, q3, q4, q5⟩ := q
  rw [h.2.1] at q1 q2 q3
  exact ⟨q0, ⟨q1, q2, q3, fun x a b c => (q5 x a b c).trans (h.2.2.2.1 x a b c), fun K a b => (q4 K a).trans (h.2.2.2.2 K a b)⟩, q4 21 (by decide)⟩
theorem c_isNumX (hL : M 8 0 0 6 = L) (hL2 : 0 ≤ L ∧ L ≤ 120) (hT : ∀ k, 0 ≤ k → k < L → M 20 0 0 k = T k) (h : TR T L M MM s) (hs : 0 ≤ s ∧ s ≤ L) : HT X z_X8_isNumber [.inr (.inr (some (8, 0, 0)))] MM (fun rr MM' => rr = some (.inl (bi (isNb T L s))) ∧ MM' = MM) :=
  c_isNumber (TR_L h hL) hL2 (TR_T h hT) hs h.1 h.2.1 h.2.2.1
theorem c_valX (hL : M 8 0 0 6 = L) (hL2 : 0 ≤ L ∧ L ≤ 120) (hT : ∀ k, 0 ≤ k → k < L → M 20 0 0 k = T k) (h : TR T L M MM s) (hs : 0 ≤ s ∧ s ≤ L) (hN : isNb T L s) : HT X z_X8_value [.inr (.inr (some (8, 0, 0)))] MM (fun rr MM' => rr = some (.inl (numC T L s)) ∧ MM' = MM) :=
  c_value (TR_L h hL) hL2 (TR_T h hT) hs h.1 h.2.1 h.2.2.1 hN
theorem c_orderX (hs : s ≤ L) : HT X z_X8_orderBy [.inr (.inr (some (8, 0, 0))), .inr (.inl (wdC T L s))] M (fun rr MM => rr = some (.inl (ordC T L s)) ∧ MM = M) :=
  ht_imp c_orderBy (fun rr M' q => ⟨q.1.trans (rint (ordW_wd hs)), q.2⟩)
end
section
variable {X : XI}
set_option maxRecDepth 2490 in
theorem c_fails {m : Int} {M : NM} {S : Sl} (hW : RW m M S) {T : Int → Int} {L : Int} (hL : M 8 0 0 6 = L) (hL2 : 0 ≤ L ∧ L ≤ 120) (hT : ∀ k, 0 ≤ k → k < L → M 20 0 0 k = T k) {s : Int} (hs : 0 ≤ s ∧ s < L) (h8 : M 8 0 0 8 = s) (h9 : M 8 0 0 9 = tkE T L s) (h10 : M 8 0 0 10 = srt T L s) (hm : m + 1 ≤ 62000) : HT X z_X8_fails [.inr (.inr (some (8, 0, 0)))] M (RQ T L M S s) := by
  refine ht_of (e := E_X8_fails) rfl (?_ : EvI X E_X8_fails (0, [some (.inr (.inr (some (8, 0, 0)))), none, none, none], [], M) _)
  have b0 : 0 ≤ s ∧ s ≤ L := by omega
  have t0 : TR T L M M s := ⟨h8, h9, h10, fun _ _ _ _ => rfl, fun _ _ _ => rfl⟩
  have hoC := ordC_r T L s
  refine seg_ok 5 (?_ : EvI X E_X8_fails (7, [some (.inr (.inr (some (8, 0, 0)))), some (.inl (M 8 0 0 8)), none, none], [.inr (.inr (some (8, 0, 0))), .inr (.inr (some (8, 0, 0)))], M) _)
  refine ev_clp (v := .inr (.inl (wdC T L s))) (z := z_X8_word) (as := [.inr (.inr (some (8, 0, 0)))]) (rest := [.inr (.inr (some (8, 0, 0)))]) rfl (c_word hL hL2 hT b0 h8 h9 h10) (?_ : EvI X E_X8_fails (10, [some (.inr (.inr (some (8, 0, 0)))), some (.inl (M 8 0 0 8)), none, none], [.inr (.inl (wdC T L s)), .inr (.inr (some (8, 0, 0)))], M) _)
  refine ev_clp (v := .inl (ordC T L s)) (z := z_X8_orderBy) (as := [.inr (.inr (some (8, 0, 0))), .inr (.inl (wdC T L s))]) (rest := []) rfl (c_orderX b0.2) (?_ : EvI X E_X8_fails (13, [some (.inr (.inr (some (8, 0, 0)))), some (.inl (M 8 0 0 8)), none, none], [.inl (ordC T L s)], M) _)
  refine seg_ok 3 (?_ : EvI X E_X8_fails (if (ordC T L s) = 0 then 18 else 23, [some (.inr (.inr (some (8, 0, 0)))), some (.inl (M 8 0 0 8)), some (.inl (ordC T L s)), none], [], M) _)
  refine ev_if (fun h15 => ?_) (fun h15 => ?_)
  · refine seg_ok 2 (?_ : EvI X E_X8_fails (22, [some (.inr (.inr (some (8, 0, 0)))), some (.inl (M 8 0 0 8)), some (.inl (ordC T L s)), none], [.inl (M 8 0 0 8)], M) _)
    refine ev_rt (r := some (.inl (M 8 0 0 8))) rfl (?_)
    rw [h8]
    exact RQ_tx (v := s) t0 b0 hW.1 (cif_t h15) hs.1
  · refine seg_ok 6 (?_ : EvI X E_X8_fails (if (ordC T L s) = 1 then 31 else 35, [some (.inr (.inr (some (8, 0, 0)))), some (.inl (M 8 0 0 8)), some (.inl (ordC T L s)), some (.inl 0)], [.inl 0], M) _)
    refine ev_if (fun h28 => ?_) (fun h28 => ?_)
    · refine seg_ok 4 (?_ : EvI X E_X8_fails (40, [some (.inr (.inr (some (8, 0, 0)))), some (.inl (M 8 0 0 8)), some (.inl (ordC T L s)), some (.inl 0)], [.inr (.inr (some (8, 0, 0)))], M) _)
      refine ev_cl (z := z_X8_next) (as := [.inr (.inr (some (8, 0, 0)))]) (rest := []) rfl (c_nextX hL hL2 hT t0 b0) ?_
      intro rr M1 hq
      obtain ⟨rfl, t_M1, g_M1⟩ := hq
      have b_M1 := (nk_r (T := T) b0).1
      have bb0 := b_M1
      show EvI X E_X8_fails (43, [some (.inr (.inr (some (8, 0, 0)))), some (.inl (M 8 0 0 8)), some (.inl (ordC T L s)), some (.inl 0)], [], M1) _
      refine seg_ok 1 (?_ : EvI X E_X8_fails (44, [some (.inr (.inr (some (8, 0, 0)))), some (.inl (M 8 0 0 8)), some (.inl (ordC T L s)), some (.inl 0)], [.inr (.inr (some (8, 0, 0)))], M1) _)
      refine ev_clp (v := .inl (bi (isNb T L (nk T L s)))) (z := z_X8_isNumber) (as := [.inr (.inr (some (8, 0, 0)))]) (rest := []) rfl (c_isNumX hL hL2 hT t_M1 b_M1) (?_ : EvI X E_X8_fails (47, [some (.inr (.inr (some (8, 0, 0)))), some (.inl (M 8 0 0 8)), some (.inl (ordC T L s)), some (.inl 0)], [.inl (bi (isNb T L (nk T L s)))], M1) _)
      refine seg_ok 1 (?_ : EvI X E_X8_fails (if (bi (isNb T L (nk T L s))) = 0 then 50 else 55, [some (.inr (.inr (some (8, 0, 0)))), some (.inl (M 8 0 0 8)), some (.inl (ordC T L s)), some (.inl 0)], [], M1) _)
      refine ev_ifb (fun h47 => ?_) (fun h47 => ?_)
      · have h47_0 := h47
        refine seg_ok 2 (?_ : EvI X E_X8_fails (54, [some (.inr (.inr (some (8, 0, 0)))), some (.inl (M 8 0 0 8)), some (.inl (ordC T L s)), some (.inl 0)], [.inl (M1 8 0 0 8)], M1) _)
        refine ev_rt (r := some (.inl (M1 8 0 0 8))) rfl (?_)
        rw [t_M1.1]
        exact RQ_tx t_M1 b_M1 hW.1 (by rw [ordR, cif_f h15, cif_t (num_f h47_0)]) b_M1.1
      · have h47_0 := h47
        refine seg_ok 4 (?_ : EvI X E_X8_fails (61, [some (.inr (.inr (some (8, 0, 0)))), some (.inl (M 8 0 0 8)), some (.inl (ordC T L s)), some (.inl 0)], [.inr (.inr (some (8, 0, 0))), .inl 0, .inr (.inr (some (21, 0, 0)))], M1) _)
        refine ev_clp (v := .inl (numC T L (nk T L s))) (z := z_X8_value) (as := [.inr (.inr (some (8, 0, 0)))]) (rest := [.inl 0, .inr (.inr (some (21, 0, 0)))]) rfl (c_valX hL hL2 hT t_M1 b_M1 h47_0) (?_ : EvI X E_X8_fails (64, [some (.inr (.inr (some (8, 0, 0)))), some (.inl (M 8 0 0 8)), some (.inl (ordC T L s)), some (.inl 0)], [.inl (numC T L (nk T L s)), .inl 0, .inr (.inr (some (21, 0, 0)))], M1) _)
        refine seg_ok 7 (⟨by decide, by omega, ?_⟩ : ((0 : Int) ≤ 0 ∧ (0 : Int) < 3) ∧ ((-2147483648 : Int) ≤ 1 ∧ (1 : Int) < 2147483648) ∧ EvI X E_X8_fails (if (ordC T L s) = 1 then 31 else 35, [some (.inr (.inr (some (8, 0, 0)))), some (.inl (M 8 0 0 8)), some (.inl (ordC T L s)), some (.inl 1)], [.inl 1], (wri M1 21 0 0 0 (numC T L (nk T L s)))) _)
        refine ev_if (fun h28 => ?_) (fun h28 => ?_)
        · refine seg_ok 4 (?_ : EvI X E_X8_fails (40, [some (.inr (.inr (some (8, 0, 0)))), some (.inl (M 8 0 0 8)), some (.inl (ordC T L s)), some (.inl 1)], [.inr (.inr (some (8, 0, 0)))], (wri M1 21 0 0 0 (numC T L (nk T L s)))) _)
          refine ev_cl (z := z_X8_next) (as := [.inr (.inr (some (8, 0, 0)))]) (rest := []) rfl (c_nextX hL hL2 hT (TR_w t_M1) b_M1) ?_
          intro rr M2 hq
          obtain ⟨rfl, t_M2, g_M2⟩ := hq
          have b_M2 := (nk_r (T := T) b_M1).1
          have bb1 := b_M2
          show EvI X E_X8_fails (43, [some (.inr (.inr (some (8, 0, 0)))), some (.inl (M 8 0 0 8)), some (.inl (ordC T L s)), some (.inl 1)], [], M2) _
          refine seg_ok 1 (?_ : EvI X E_X8_fails (44, [some (.inr (.inr (some (8, 0, 0)))), some (.inl (M 8 0 0 8)), some (.inl (ordC T L s)), some (.inl 1)], [.inr (.inr (some (8, 0, 0)))], M2) _)
          refine ev_clp (v := .inl (bi (isNb T L (nk T L (nk T L s))))) (z := z_X8_isNumber) (as := [.inr (.inr (some (8, 0, 0)))]) (rest := []) rfl (c_isNumX hL hL2 hT t_M2 b_M2) (?_ : EvI X E_X8_fails (47, [some (.inr (.inr (some (8, 0, 0)))), some (.inl (M 8 0 0 8)), some (.inl (ordC T L s)), some (.inl 1)], [.inl (bi (isNb T L (nk T L (nk T L s))))], M2) _)
          refine seg_ok 1 (?_ : EvI X E_X8_fails (if (bi (isNb T L (nk T L (nk T L s)))) = 0 then 50 else 55, [some (.inr (.inr (some (8, 0, 0)))), some (.inl (M 8 0 0 8)), some (.inl (ordC T L s)), some (.inl 1)], [], M2) _)
          refine ev_ifb (fun h47 => ?_) (fun h47 => ?_)
          · have h47_1 := h47
            refine seg_ok 2 (?_ : EvI X E_X8_fails (54, [some (.inr (.inr (some (8, 0, 0)))), some (.inl (M 8 0 0 8)), some (.inl (ordC T L s)), some (.inl 1)], [.inl (M2 8 0 0 8)], M2) _)
            refine ev_rt (r := some (.inl (M2 8 0 0 8))) rfl (?_)
            rw [t_M2.1]
            exact RQ_tx t_M2 b_M2 hW.1 (by rw [ordR, cif_f h15, cif_f (num_nn bb0 h47_0), cif_t ⟨h28, num_f h47_1⟩]) b_M2.1
          · have h47_1 := h47
            refine seg_ok 4 (?_ : EvI X E_X8_fails (61, [some (.inr (.inr (some (8, 0, 0)))), some (.inl (M 8 0 0 8)), some (.inl (ordC T L s)), some (.inl 1)], [.inr (.inr (some (8, 0, 0))), .inl 1, .inr (.inr (some (21, 0, 0)))], M2) _)
            refine ev_clp (v := .inl (numC T L (nk T L (nk T L s)))) (z := z_X8_value) (as := [.inr (.inr (some (8, 0, 0)))]) (rest := [.inl 1, .inr (.inr (some (21, 0, 0)))]) rfl (c_valX hL hL2 hT t_M2 b_M2 h47_1) (?_ : EvI X E_X8_fails (64, [some (.inr (.inr (some (8, 0, 0)))), some (.inl (M 8 0 0 8)), some (.inl (ordC T L s)), some (.inl 1)], [.inl (numC T L (nk T L (nk T L s))), .inl 1, .inr (.inr (some (21, 0, 0)))], M2) _)
            refine seg_ok 7 (⟨by omega, by omega, ?_⟩ : ((0 : Int) ≤ 1 ∧ (1 : Int) < 3) ∧ ((-2147483648 : Int) ≤ 2 ∧ (2 : Int) < 2147483648) ∧ EvI X E_X8_fails (if (ordC T L s) = 1 then 31 else 35, [some (.inr (.inr (some (8, 0, 0)))), some (.inl (M 8 0 0 8)), some (.inl (ordC T L s)), some (.inl 2)], [.inl 2], (wri M2 21 0 0 1 (numC T L (nk T L (nk T L s))))) _)
            refine ev_if (fun h28 => ?_) (fun h28 => ?_)
            · refine seg_ok 4 (?_ : EvI X E_X8_fails (40, [some (.inr (.inr (some (8, 0, 0)))), some (.inl (M 8 0 0 8)), some (.inl (ordC T L s)), some (.inl 2)], [.inr (.inr (some (8, 0, 0)))], (wri M2 21 0 0 1 (numC T L (nk T L (nk T L s))))) _)
              refine ev_cl (z := z_X8_next) (as := [.inr (.inr (some (8, 0, 0)))]) (rest := []) rfl (c_nextX hL hL2 hT (TR_w t_M2) b_M2) ?_
              intro rr M3 hq
              obtain ⟨rfl, t_M3, g_M3⟩ := hq
              have b_M3 := (nk_r (T := T) b_M2).1
              have bb2 := b_M3
              show EvI X E_X8_fails (43, [some (.inr (.inr (some (8, 0, 0)))), some (.inl (M 8 0 0 8)), some (.inl (ordC T L s)), some (.inl 2)], [], M3) _
              refine seg_ok 1 (?_ : EvI X E_X8_fails (44, [some (.inr (.inr (some (8, 0, 0)))), some (.inl (M 8 0 0 8)), some (.inl (ordC T L s)), some (.inl 2)], [.inr (.inr (some (8, 0, 0)))], M3) _)
              refine ev_clp (v := .inl (bi (isNb T L (nk T L (nk T L (nk T L s)))))) (z := z_X8_isNumber) (as := [.inr (.inr (some (8, 0, 0)))]) (rest := []) rfl (c_isNumX hL hL2 hT t_M3 b_M3) (?_ : EvI X E_X8_fails (47, [some (.inr (.inr (some (8, 0, 0)))), some (.inl (M 8 0 0 8)), some (.inl (ordC T L s)), some (.inl 2)], [.inl (bi (isNb T L (nk T L (nk T L (nk T L s)))))], M3) _)
              refine seg_ok 1 (?_ : EvI X E_X8_fails (if (bi (isNb T L (nk T L (nk T L (nk T L s))))) = 0 then 50 else 55, [some (.inr (.inr (some (8, 0, 0)))), some (.inl (M 8 0 0 8)), some (.inl (ordC T L s)), some (.inl 2)], [], M3) _)
              refine ev_ifb (fun h47 => ?_) (fun h47 => ?_)
              · have h47_2 := h47
                refine seg_ok 2 (?_ : EvI X E_X8_fails (54, [some (.inr (.inr (some (8, 0, 0)))), some (.inl (M 8 0 0 8)), some (.inl (ordC T L s)), some (.inl 2)], [.inl (M3 8 0 0 8)], M3) _)
                refine ev_rt (r := some (.inl (M3 8 0 0 8))) rfl (?_)
                rw [t_M3.1]
                exact RQ_tx t_M3 b_M3 hW.1 (by rw [ordR, cif_f h15, cif_f (num_nn bb0 h47_0), cif_f (fun z => num_nn bb1 h47_1 z.2), cif_t ⟨h28, num_f h47_2⟩]) b_M3.1
              · have h47_2 := h47
                refine seg_ok 4 (?_ : EvI X E_X8_fails (61, [some (.inr (.inr (some (8, 0, 0)))), some (.inl (M 8 0 0 8)), some (.inl (ordC T L s)), some (.inl 2)], [.inr (.inr (some (8, 0, 0))), .inl 2, .inr (.inr (some (21, 0, 0)))], M3) _)
                refine ev_clp (v := .inl (numC T L (nk T L (nk T L (nk T L s))))) (z := z_X8_value) (as := [.inr (.inr (some (8, 0, 0)))]) (rest := [.inl 2, .inr (.inr (some (21, 0, 0)))]) rfl (c_valX hL hL2 hT t_M3 b_M3 h47_2) (?_ : EvI X E_X8_fails (64, [some (.inr (.inr (some (8, 0, 0)))), some (.inl (M 8 0 0 8)), some (.inl (ordC T L s)), some (.inl 2)], [.inl (numC T L (nk T L (nk T L (nk T L s)))), .inl 2, .inr (.inr (some (21, 0, 0)))], M3) _)
                refine seg_ok 7 (⟨by omega, by omega, ?_⟩ : ((0 : Int) ≤ 2 ∧ (2 : Int) < 3) ∧ ((-2147483648 : Int) ≤ 3 ∧ (3 : Int) < 2147483648) ∧ EvI X E_X8_fails (if (ordC T L s) = 1 then 31 else 35, [some (.inr (.inr (some (8, 0, 0)))), some (.inl (M 8 0 0 8)), some (.inl (ordC T L s)), some (.inl 3)], [.inl 3], (wri M3 21 0 0 2 (numC T L (nk T L (nk T L (nk T L s)))))) _)
                refine ev_if (fun h28 => ?_) (fun h28 => ?_)
                · refine seg_ok 4 (?_ : EvI X E_X8_fails (72, [some (.inr (.inr (some (8, 0, 0)))), some (.inl (M 8 0 0 8)), some (.inl (ordC T L s)), some (.inl 3)], [.inr (.inr (some (8, 0, 0)))], (wri M3 21 0 0 2 (numC T L (nk T L (nk T L (nk T L s)))))) _)
                  refine ev_cl (z := z_X8_next) (as := [.inr (.inr (some (8, 0, 0)))]) (rest := []) rfl (c_nextX hL hL2 hT (TR_w t_M3) b_M3) ?_
                  intro rr M4 hq
                  obtain ⟨rfl, t_M4, g_M4⟩ := hq
                  have b_M4 := (nk_r (T := T) b_M3).1
                  have bb3 := b_M4
                  show EvI X E_X8_fails (75, [some (.inr (.inr (some (8, 0, 0)))), some (.inl (M 8 0 0 8)), some (.inl (ordC T L s)), some (.inl 3)], [], M4) _
                  refine seg_ok 4 (?_ : EvI X E_X8_fails (if (M4 8 0 0 10) = 3 then 83 else 97, [some (.inr (.inr (some (8, 0, 0)))), some (.inl (M 8 0 0 8)), some (.inl (ordC T L s)), some (.inl 3)], [], M4) _)
                  refine ev_if (fun h80 => ?_) (fun h80 => ?_)
                  · have y80 := (srt_3 b_M4.2).mp (t_M4.2.2.1.symm.trans h80)
                    have w80 : M4 8 0 0 8 = (nk T L (nk T L (nk T L (nk T L s)))) := t_M4.1
                    refine seg_ok 7 (⟨by omega, ?_⟩ : ((0 : Int) ≤ (M4 8 0 0 8) ∧ (M4 8 0 0 8) < 120) ∧ EvI X E_X8_fails (if (M4 20 0 0 (M4 8 0 0 8)) = 59 then 102 else 97, [some (.inr (.inr (some (8, 0, 0)))), some (.inl (M 8 0 0 8)), some (.inl (ordC T L s)), some (.inl 3)], [], M4) _)
                    refine ev_if (fun h94 => ?_) (fun h94 => ?_)
                    · rw [show M4 20 0 0 (M4 8 0 0 8) = T (nk T L (nk T L (nk T L (nk T L s)))) by rw [w80, t_M4.2.2.2.2 20 (by decide) (by decide)]; exact hT _ b_M4.1 y80.1] at h94
                      refine seg_ok 2 (?_ : EvI X E_X8_fails (104, [some (.inr (.inr (some (8, 0, 0)))), some (.inl (M 8 0 0 8)), some (.inl (ordC T L s)), some (.inl 3)], [.inl (ordC T L s), .inr (.inr (some (8, 0, 0)))], M4) _)
                      refine ev_cl (z := z_X8_done) (as := [.inr (.inr (some (8, 0, 0))), .inl (ordC T L s)]) (rest := []) rfl (c_done (S := S) ⟨by rw [t_M4.2.2.2.2 17 (by decide) (by decide)]; exact hW.1, hW.2⟩ hm (o := ordC T L s) (by omega)) ?_
                      intro rr M5 hq
                      obtain ⟨rfl, r1, u1, g1⟩ := hq
                      show EvI X E_X8_fails (107, [some (.inr (.inr (some (8, 0, 0)))), some (.inl (M 8 0 0 8)), some (.inl (ordC T L s)), some (.inl 3)], [.inl ((opO (ordC T L s) S (M4 21 0 0 0) (M4 21 0 0 1) (M4 21 0 0 2)).1)], M5) _
                      refine seg_ok 1 (?_ : EvI X E_X8_fails (if (opO (ordC T L s) S (M4 21 0 0 0) (M4 21 0 0 1) (M4 21 0 0 2)).1 < 0 then 110 else 114, [some (.inr (.inr (some (8, 0, 0)))), some (.inl (M 8 0 0 8)), some (.inl (ordC T L s)), some (.inl 3)], [], M5) _)
                      refine ev_if (fun h107 => ?_) (fun h107 => ?_)
                      · refine seg_ok 2 (?_ : EvI X E_X8_fails (116, [some (.inr (.inr (some (8, 0, 0)))), some (.inl (M 8 0 0 8)), some (.inl (ordC T L s)), some (.inl 3)], [.inl (M 8 0 0 8)], M5) _)
                        refine ev_rt (r := some (.inl (M 8 0 0 8))) rfl (?_)
                        have eQ : ordQ T L s = (nk T L (nk T L (nk T L (nk T L s)))) := cif_t h28
                        have n0 : M4 21 0 0 0 = numC T L (nk T L s) := by rw [g_M4, wri_nes (by decide), g_M3, wri_nes (by decide), g_M2, wri_eq]
                        have n1 : M4 21 0 0 1 = numC T L (nk T L (nk T L s)) := by rw [g_M4, wri_nes (by decide), g_M3, wri_eq]
                        have n2 : M4 21 0 0 2 = numC T L (nk T L (nk T L (nk T L s))) := by rw [g_M4, wri_eq]
                        have oX : ordX T L s S = opO (ordC T L s) S (M4 21 0 0 0) (M4 21 0 0 1) (M4 21 0 0 2) := by
                          rw [n0, n1, n2]; rfl
                        rw [h8]
                        exact RQ_pf (v := s) (eQ.symm ▸ t_M4) (eQ.symm ▸ b_M4) (by rw [ordR, cif_f h15, cif_f (num_nn bb0 h47_0), cif_f (fun z => num_nn bb1 h47_1 z.2), cif_f (fun z => num_nn bb2 h47_2 z.2), eQ, cif_f (fun z => z ((semi b_M4.2).mpr ⟨t_M4.2.2.1.symm.trans h80, h94⟩)), cif_t (by rw [oX]; exact h107)]) (cif_f (show ¬ s = -1 by omega)).symm oX r1 u1 g1
                      · refine seg_ok 1 (?_ : EvI X E_X8_fails (116, [some (.inr (.inr (some (8, 0, 0)))), some (.inl (M 8 0 0 8)), some (.inl (ordC T L s)), some (.inl 3)], [.inl (-9)], M5) _)
                        refine ev_rt (r := some (.inl (-9))) rfl (?_)
                        have eQ : ordQ T L s = (nk T L (nk T L (nk T L (nk T L s)))) := cif_t h28
                        have n0 : M4 21 0 0 0 = numC T L (nk T L s) := by rw [g_M4, wri_nes (by decide), g_M3, wri_nes (by decide), g_M2, wri_eq]
                        have n1 : M4 21 0 0 1 = numC T L (nk T L (nk T L s)) := by rw [g_M4, wri_nes (by decide), g_M3, wri_eq]
                        have n2 : M4 21 0 0 2 = numC T L (nk T L (nk T L (nk T L s))) := by rw [g_M4, wri_eq]
                        have oX : ordX T L s S = opO (ordC T L s) S (M4 21 0 0 0) (M4 21 0 0 1) (M4 21 0 0 2) := by
                          rw [n0, n1, n2]; rfl
                        exact RQ_pf (v := (-1)) (eQ.symm ▸ t_M4) (eQ.symm ▸ b_M4) (by rw [ordR, cif_f h15, cif_f (num_nn bb0 h47_0), cif_f (fun z => num_nn bb1 h47_1 z.2), cif_f (fun z => num_nn bb2 h47_2 z.2), eQ, cif_f (fun z => z ((semi b_M4.2).mpr ⟨t_M4.2.2.1.symm.trans h80, h94⟩)), cif_f (by rw [oX]; exact h107)]) (cif_t rfl).symm oX r1 u1 g1
                    · rw [show M4 20 0 0 (M4 8 0 0 8) = T (nk T L (nk T L (nk T L (nk T L s)))) by rw [w80, t_M4.2.2.2.2 20 (by decide) (by decide)]; exact hT _ b_M4.1 y80.1] at h94
                      refine seg_ok 2 (?_ : EvI X E_X8_fails (101, [some (.inr (.inr (some (8, 0, 0)))), some (.inl (M 8 0 0 8)), some (.inl (ordC T L s)), some (.inl 3)], [.inl (M4 8 0 0 8)], M4) _)
                      refine ev_rt (r := some (.inl (M4 8 0 0 8))) rfl (?_)
                      have eQ : ordQ T L s = (nk T L (nk T L (nk T L (nk T L s)))) := cif_t h28
                      rw [t_M4.1]
                      exact RQ_tx t_M4 b_M4 hW.1 (by rw [ordR, cif_f h15, cif_f (num_nn bb0 h47_0), cif_f (fun z => num_nn bb1 h47_1 z.2), cif_f (fun z => num_nn bb2 h47_2 z.2), eQ, cif_t (fun z => h94 ((semi b_M4.2).mp z).2)]) b_M4.1
                  · refine seg_ok 2 (?_ : EvI X E_X8_fails (101, [some (.inr (.inr (some (8, 0, 0)))), some (.inl (M 8 0 0 8)), some (.inl (ordC T L s)), some (.inl 3)], [.inl (M4 8 0 0 8)], M4) _)
                    refine ev_rt (r := some (.inl (M4 8 0 0 8))) rfl (?_)
                    have eQ : ordQ T L s = (nk T L (nk T L (nk T L (nk T L s)))) := cif_t h28
                    rw [t_M4.1]
                    exact RQ_tx t_M4 b_M4 hW.1 (by rw [ordR, cif_f h15, cif_f (num_nn bb0 h47_0), cif_f (fun z => num_nn bb1 h47_1 z.2), cif_f (fun z => num_nn bb2 h47_2 z.2), eQ, cif_t (fun z => h80 (t_M4.2.2.1.trans ((semi b_M4.2).mp z).1))]) b_M4.1
                · omega
            · omega
        · omega
    · refine seg_ok 3 (?_ : EvI X E_X8_fails (40, [some (.inr (.inr (some (8, 0, 0)))), some (.inl (M 8 0 0 8)), some (.inl (ordC T L s)), some (.inl 0)], [.inr (.inr (some (8, 0, 0)))], M) _)
      refine ev_cl (z := z_X8_next) (as := [.inr (.inr (some (8, 0, 0)))]) (rest := []) rfl (c_nextX hL hL2 hT t0 b0) ?_
      intro rr M6 hq
      obtain ⟨rfl, t_M6, g_M6⟩ := hq
      have b_M6 := (nk_r (T := T) b0).1
      have bb0 := b_M6
      show EvI X E_X8_fails (43, [some (.inr (.inr (some (8, 0, 0)))), some (.inl (M 8 0 0 8)), some (.inl (ordC T L s)), some (.inl 0)], [], M6) _
      refine seg_ok 1 (?_ : EvI X E_X8_fails (44, [some (.inr (.inr (some (8, 0, 0)))), some (.inl (M 8 0 0 8)), some (.inl (ordC T L s)), some (.inl 0)], [.inr (.inr (some (8, 0, 0)))], M6) _)
      refine ev_clp (v := .inl (bi (isNb T L (nk T L s)))) (z := z_X8_isNumber) (as := [.inr (.inr (some (8, 0, 0)))]) (rest := []) rfl (c_isNumX hL hL2 hT t_M6 b_M6) (?_ : EvI X E_X8_fails (47, [some (.inr (.inr (some (8, 0, 0)))), some (.inl (M 8 0 0 8)), some (.inl (ordC T L s)), some (.inl 0)], [.inl (bi (isNb T L (nk T L s)))], M6) _)
      refine seg_ok 1 (?_ : EvI X E_X8_fails (if (bi (isNb T L (nk T L s))) = 0 then 50 else 55, [some (.inr (.inr (some (8, 0, 0)))), some (.inl (M 8 0 0 8)), some (.inl (ordC T L s)), some (.inl 0)], [], M6) _)
      refine ev_ifb (fun h47 => ?_) (fun h47 => ?_)
      · have h47_0 := h47
        refine seg_ok 2 (?_ : EvI X E_X8_fails (54, [some (.inr (.inr (some (8, 0, 0)))), some (.inl (M 8 0 0 8)), some (.inl (ordC T L s)), some (.inl 0)], [.inl (M6 8 0 0 8)], M6) _)
        refine ev_rt (r := some (.inl (M6 8 0 0 8))) rfl (?_)
        rw [t_M6.1]
        exact RQ_tx t_M6 b_M6 hW.1 (by rw [ordR, cif_f h15, cif_t (num_f h47_0)]) b_M6.1
      · have h47_0 := h47
        refine seg_ok 4 (?_ : EvI X E_X8_fails (61, [some (.inr (.inr (some (8, 0, 0)))), some (.inl (M 8 0 0 8)), some (.inl (ordC T L s)), some (.inl 0)], [.inr (.inr (some (8, 0, 0))), .inl 0, .inr (.inr (some (21, 0, 0)))], M6) _)
        refine ev_clp (v := .inl (numC T L (nk T L s))) (z := z_X8_value) (as := [.inr (.inr (some (8, 0, 0)))]) (rest := [.inl 0, .inr (.inr (some (21, 0, 0)))]) rfl (c_valX hL hL2 hT t_M6 b_M6 h47_0) (?_ : EvI X E_X8_fails (64, [some (.inr (.inr (some (8, 0, 0)))), some (.inl (M 8 0 0 8)), some (.inl (ordC T L s)), some (.inl 0)], [.inl (numC T L (nk T L s)), .inl 0, .inr (.inr (some (21, 0, 0)))], M6) _)
        refine seg_ok 7 (⟨by decide, by omega, ?_⟩ : ((0 : Int) ≤ 0 ∧ (0 : Int) < 3) ∧ ((-2147483648 : Int) ≤ 1 ∧ (1 : Int) < 2147483648) ∧ EvI X E_X8_fails (if (ordC T L s) = 1 then 31 else 35, [some (.inr (.inr (some (8, 0, 0)))), some (.inl (M 8 0 0 8)), some (.inl (ordC T L s)), some (.inl 1)], [.inl 1], (wri M6 21 0 0 0 (numC T L (nk T L s)))) _)
        refine ev_if (fun h28 => ?_) (fun h28 => ?_)
        · omega
        · refine seg_ok 3 (?_ : EvI X E_X8_fails (72, [some (.inr (.inr (some (8, 0, 0)))), some (.inl (M 8 0 0 8)), some (.inl (ordC T L s)), some (.inl 1)], [.inr (.inr (some (8, 0, 0)))], (wri M6 21 0 0 0 (numC T L (nk T L s)))) _)
          refine ev_cl (z := z_X8_next) (as := [.inr (.inr (some (8, 0, 0)))]) (rest := []) rfl (c_nextX hL hL2 hT (TR_w t_M6) b_M6) ?_
          intro rr M7 hq
          obtain ⟨rfl, t_M7, g_M7⟩ := hq
          have b_M7 := (nk_r (T := T) b_M6).1
          have bb1 := b_M7
          show EvI X E_X8_fails (75, [some (.inr (.inr (some (8, 0, 0)))), some (.inl (M 8 0 0 8)), some (.inl (ordC T L s)), some (.inl 1)], [], M7) _
          refine seg_ok 4 (?_ : EvI X E_X8_fails (if (M7 8 0 0 10) = 3 then 83 else 97, [some (.inr (.inr (some (8, 0, 0)))), some (.inl (M 8 0 0 8)), some (.inl (ordC T L s)), some (.inl 1)], [], M7) _)
          refine ev_if (fun h80 => ?_) (fun h80 => ?_)
          · have y80 := (srt_3 b_M7.2).mp (t_M7.2.2.1.symm.trans h80)
            have w80 : M7 8 0 0 8 = (nk T L (nk T L s)) := t_M7.1
            refine seg_ok 7 (⟨by omega, ?_⟩ : ((0 : Int) ≤ (M7 8 0 0 8) ∧ (M7 8 0 0 8) < 120) ∧ EvI X E_X8_fails (if (M7 20 0 0 (M7 8 0 0 8)) = 59 then 102 else 97, [some (.inr (.inr (some (8, 0, 0)))), some (.inl (M 8 0 0 8)), some (.inl (ordC T L s)), some (.inl 1)], [], M7) _)
            refine ev_if (fun h94 => ?_) (fun h94 => ?_)
            · rw [show M7 20 0 0 (M7 8 0 0 8) = T (nk T L (nk T L s)) by rw [w80, t_M7.2.2.2.2 20 (by decide) (by decide)]; exact hT _ b_M7.1 y80.1] at h94
              refine seg_ok 2 (?_ : EvI X E_X8_fails (104, [some (.inr (.inr (some (8, 0, 0)))), some (.inl (M 8 0 0 8)), some (.inl (ordC T L s)), some (.inl 1)], [.inl (ordC T L s), .inr (.inr (some (8, 0, 0)))], M7) _)
              refine ev_cl (z := z_X8_done) (as := [.inr (.inr (some (8, 0, 0))), .inl (ordC T L s)]) (rest := []) rfl (c_done (S := S) ⟨by rw [t_M7.2.2.2.2 17 (by decide) (by decide)]; exact hW.1, hW.2⟩ hm (o := ordC T L s) (by omega)) ?_
              intro rr M8 hq
              obtain ⟨rfl, r1, u1, g1⟩ := hq
              show EvI X E_X8_fails (107, [some (.inr (.inr (some (8, 0, 0)))), some (.inl (M 8 0 0 8)), some (.inl (ordC T L s)), some (.inl 1)], [.inl ((opO (ordC T L s) S (M7 21 0 0 0) (M7 21 0 0 1) (M7 21 0 0 2)).1)], M8) _
              refine seg_ok 1 (?_ : EvI X E_X8_fails (if (opO (ordC T L s) S (M7 21 0 0 0) (M7 21 0 0 1) (M7 21 0 0 2)).1 < 0 then 110 else 114, [some (.inr (.inr (some (8, 0, 0)))), some (.inl (M 8 0 0 8)), some (.inl (ordC T L s)), some (.inl 1)], [], M8) _)
              refine ev_if (fun h107 => ?_) (fun h107 => ?_)
              · refine seg_ok 2 (?_ : EvI X E_X8_fails (116, [some (.inr (.inr (some (8, 0, 0)))), some (.inl (M 8 0 0 8)), some (.inl (ordC T L s)), some (.inl 1)], [.inl (M 8 0 0 8)], M8) _)
                refine ev_rt (r := some (.inl (M 8 0 0 8))) rfl (?_)
                have eQ : ordQ T L s = (nk T L (nk T L s)) := cif_f h28
                have n0 : M7 21 0 0 0 = numC T L (nk T L s) := by rw [g_M7, wri_eq]
                have oX : ordX T L s S = opO (ordC T L s) S (M7 21 0 0 0) (M7 21 0 0 1) (M7 21 0 0 2) := by
                  rw [n0]; exact opO_n h28
                rw [h8]
                exact RQ_pf (v := s) (eQ.symm ▸ t_M7) (eQ.symm ▸ b_M7) (by rw [ordR, cif_f h15, cif_f (num_nn bb0 h47_0), cif_f (fun z => h28 z.1), cif_f (fun z => h28 z.1), eQ, cif_f (fun z => z ((semi b_M7.2).mpr ⟨t_M7.2.2.1.symm.trans h80, h94⟩)), cif_t (by rw [oX]; exact h107)]) (cif_f (show ¬ s = -1 by omega)).symm oX r1 u1 g1
              · refine seg_ok 1 (?_ : EvI X E_X8_fails (116, [some (.inr (.inr (some (8, 0, 0)))), some (.inl (M 8 0 0 8)), some (.inl (ordC T L s)), some (.inl 1)], [.inl (-9)], M8) _)
                refine ev_rt (r := some (.inl (-9))) rfl (?_)
                have eQ : ordQ T L s = (nk T L (nk T L s)) := cif_f h28
                have n0 : M7 21 0 0 0 = numC T L (nk T L s) := by rw [g_M7, wri_eq]
                have oX : ordX T L s S = opO (ordC T L s) S (M7 21 0 0 0) (M7 21 0 0 1) (M7 21 0 0 2) := by
                  rw [n0]; exact opO_n h28
                exact RQ_pf (v := (-1)) (eQ.symm ▸ t_M7) (eQ.symm ▸ b_M7) (by rw [ordR, cif_f h15, cif_f (num_nn bb0 h47_0), cif_f (fun z => h28 z.1), cif_f (fun z => h28 z.1), eQ, cif_f (fun z => z ((semi b_M7.2).mpr ⟨t_M7.2.2.1.symm.trans h80, h94⟩)), cif_f (by rw [oX]; exact h107)]) (cif_t rfl).symm oX r1 u1 g1
            · rw [show M7 20 0 0 (M7 8 0 0 8) = T (nk T L (nk T L s)) by rw [w80, t_M7.2.2.2.2 20 (by decide) (by decide)]; exact hT _ b_M7.1 y80.1] at h94
              refine seg_ok 2 (?_ : EvI X E_X8_fails (101, [some (.inr (.inr (some (8, 0, 0)))), some (.inl (M 8 0 0 8)), some (.inl (ordC T L s)), some (.inl 1)], [.inl (M7 8 0 0 8)], M7) _)
              refine ev_rt (r := some (.inl (M7 8 0 0 8))) rfl (?_)
              have eQ : ordQ T L s = (nk T L (nk T L s)) := cif_f h28
              rw [t_M7.1]
              exact RQ_tx t_M7 b_M7 hW.1 (by rw [ordR, cif_f h15, cif_f (num_nn bb0 h47_0), cif_f (fun z => h28 z.1), cif_f (fun z => h28 z.1), eQ, cif_t (fun z => h94 ((semi b_M7.2).mp z).2)]) b_M7.1
          · refine seg_ok 2 (?_ : EvI X E_X8_fails (101, [some (.inr (.inr (some (8, 0, 0)))), some (.inl (M 8 0 0 8)), some (.inl (ordC T L s)), some (.inl 1)], [.inl (M7 8 0 0 8)], M7) _)
            refine ev_rt (r := some (.inl (M7 8 0 0 8))) rfl (?_)
            have eQ : ordQ T L s = (nk T L (nk T L s)) := cif_f h28
            rw [t_M7.1]
            exact RQ_tx t_M7 b_M7 hW.1 (by rw [ordR, cif_f h15, cif_f (num_nn bb0 h47_0), cif_f (fun z => h28 z.1), cif_f (fun z => h28 z.1), eQ, cif_t (fun z => h80 (t_M7.2.2.1.trans ((semi b_M7.2).mp z).1))]) b_M7.1
end
