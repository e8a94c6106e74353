/-! 23: the class: moves and chains -/
section
variable {X : XI}
theorem acc4 {k x : Int} : k + (x + 1) = k + 1 + x := by omega
theorem Iw_bec {m : Int} {S : Sl} {f n w : Int} (h : Iw m S) : Iw m (bec S f n w) := h
set_option maxRecDepth 2130 in
theorem d_moveTicket {m : Int} {M : NM} {j : Int} (hI : Inv m (sl M j)) (hm : m + 1 ≤ 62000) {t b : Int} (hM : Mv (sl M j) b t) : HT X z_X5_moveTicket [.inr (.inr (some (5, j, 0))), .inl t, .inl b] M (fun rr MM => rr = some (.inl (M 6 j t 1 / 100)) ∧ sl MM j = mvS (sl M j) t b ∧ FR j M MM) := by
  have hi := hI.1
  simp only [Iv0, sl] at hi
  have hne := Mv_ne hM
  obtain ⟨ht, ho, hb, hr, hp⟩ := hM
  have hh := HO_r hI (HO_t hI ht)
  have hpp := HO_r hI (pl_HO hI hb hh.2 hp).1
  have htt := (hI.2.2.2.2.1 t ht.1 ht.2).2
  simp only [sl] at hh hpp htt ht hb
  refine ht_of (e := E_X5_moveTicket) rfl (?_ : EvI X E_X5_moveTicket (0, [some (.inr (.inr (some (5, j, 0)))), some (.inl t), some (.inl b), none, none], [], M) _)
  refine seg_ok 2 (?_ : EvI X E_X5_moveTicket (2, [some (.inr (.inr (some (5, j, 0)))), some (.inl t), some (.inl b), none, none], [.inl t, .inr (.inr (some (5, j, 0)))], M) _)
  refine ev_clp (v := .inr (.inr (some (6, j, t)))) (z := z_X5_ticketAt) (as := [.inr (.inr (some (5, j, 0))), .inl t]) (rest := []) rfl (d_ticketAt_t ht (by omega)) (?_ : EvI X E_X5_moveTicket (5, [some (.inr (.inr (some (5, j, 0)))), some (.inl t), some (.inl b), none, none], [.inr (.inr (some (6, j, t)))], M) _)
  refine seg_ok 15 (⟨by omega, ?_⟩ : ((0 : Int) ≤ (M 6 j t 1) ∧ (0 : Int) < 100) ∧ EvI X E_X5_moveTicket (35, [some (.inr (.inr (some (5, j, 0)))), some (.inl t), some (.inl b), some (.inr (.inr (some (6, j, t)))), some (.inl ((M 6 j t 1) / 100))], [.inl 0, .inl (M 6 j t 2), .inl (M 6 j t 1), .inr (.inr (some (1, j, 0)))], M) _)
  refine ev_cl (z := z_X1_mark) (as := [.inr (.inr (some (1, j, 0))), .inl (M 6 j t 1), .inl (M 6 j t 2), .inl 0]) (rest := []) rfl (d_mark (by omega) (by omega)) ?_
  intro rr M1 hqM1
  obtain ⟨rfl, hM1⟩ := hqM1
  subst hM1
  show EvI X E_X5_moveTicket (38, [some (.inr (.inr (some (5, j, 0)))), some (.inl t), some (.inl b), some (.inr (.inr (some (6, j, t)))), some (.inl ((M 6 j t 1) / 100))], [], (bcM M j (M 6 j t 1) (M 6 j t 2) 0)) _
  refine seg_ok 6 (?_ : EvI X E_X5_moveTicket (48, [some (.inr (.inr (some (5, j, 0)))), some (.inl t), some (.inl b), some (.inr (.inr (some (6, j, t)))), some (.inl ((M 6 j t 1) / 100))], [.inl (M 6 j t 2), .inl b, .inr (.inr (some (1, j, 0))), .inr (.inr (some (6, j, t)))], (bcM M j (M 6 j t 1) (M 6 j t 2) 0)) _)
  refine ev_clp (v := .inl (pl (sl (bcM M j (M 6 j t 1) (M 6 j t 2) 0) j) b (M 6 j t 2))) (z := z_X1_findPlace) (as := [.inr (.inr (some (1, j, 0))), .inl b, .inl (M 6 j t 2)]) (rest := [.inr (.inr (some (6, j, t)))]) rfl (d_findPlace (m := m) (show Iw m (sl (bcM M j (M 6 j t 1) (M 6 j t 2) 0) j) from by rw [sl_bcM]; exact Iw_bec (Iw_of hI)) (show 0 ≤ b ∧ b < M 1 j 0 3 from hb) (show 1 ≤ M 6 j t 2 ∧ M 6 j t 2 ≤ 10 from hh.2)) (?_ : EvI X E_X5_moveTicket (51, [some (.inr (.inr (some (5, j, 0)))), some (.inl t), some (.inl b), some (.inr (.inr (some (6, j, t)))), some (.inl ((M 6 j t 1) / 100))], [.inl (pl (sl (bcM M j (M 6 j t 1) (M 6 j t 2) 0) j) b (M 6 j t 2)), .inr (.inr (some (6, j, t)))], (bcM M j (M 6 j t 1) (M 6 j t 2) 0)) _)
  rw [show (pl (sl (bcM M j (M 6 j t 1) (M 6 j t 2) 0) j) b (M 6 j t 2)) = (pl (sl M j) b (M 6 j t 2)) from by rw [sl_bcM]; exact pl_free hI (HO_t hI ht) hb hne]
  refine seg_ok 5 (?_ : EvI X E_X5_moveTicket (62, [some (.inr (.inr (some (5, j, 0)))), some (.inl t), some (.inl b), some (.inr (.inr (some (6, j, t)))), some (.inl ((M 6 j t 1) / 100))], [.inl ((wri (bcM M j (M 6 j t 1) (M 6 j t 2) 0) 6 j t 1 (pl (sl M j) b (M 6 j t 2))) 6 j t 1), .inr (.inr (some (1, j, 0)))], (wri (bcM M j (M 6 j t 1) (M 6 j t 2) 0) 6 j t 1 (pl (sl M j) b (M 6 j t 2)))) _)
  rw [show ((wri (bcM M j (M 6 j t 1) (M 6 j t 2) 0) 6 j t 1 (pl (sl M j) b (M 6 j t 2))) 6 j t 1) = (pl (sl M j) b (M 6 j t 2)) from wri_eq]
  refine seg_ok 2 (?_ : EvI X E_X5_moveTicket (66, [some (.inr (.inr (some (5, j, 0)))), some (.inl t), some (.inl b), some (.inr (.inr (some (6, j, t)))), some (.inl ((M 6 j t 1) / 100))], [.inl ((wri (bcM M j (M 6 j t 1) (M 6 j t 2) 0) 6 j t 1 (pl (sl M j) b (M 6 j t 2))) 6 j t 2), .inl (pl (sl M j) b (M 6 j t 2)), .inr (.inr (some (1, j, 0)))], (wri (bcM M j (M 6 j t 1) (M 6 j t 2) 0) 6 j t 1 (pl (sl M j) b (M 6 j t 2)))) _)
  rw [show ((wri (bcM M j (M 6 j t 1) (M 6 j t 2) 0) 6 j t 1 (pl (sl M j) b (M 6 j t 2))) 6 j t 2) = (M 6 j t 2) from wri_nes (by decide)]
  refine seg_ok 1 (?_ : EvI X E_X5_moveTicket (67, [some (.inr (.inr (some (5, j, 0)))), some (.inl t), some (.inl b), some (.inr (.inr (some (6, j, t)))), some (.inl ((M 6 j t 1) / 100))], [.inl 2, .inl (M 6 j t 2), .inl (pl (sl M j) b (M 6 j t 2)), .inr (.inr (some (1, j, 0)))], (wri (bcM M j (M 6 j t 1) (M 6 j t 2) 0) 6 j t 1 (pl (sl M j) b (M 6 j t 2)))) _)
  refine ev_cl (z := z_X1_mark) (as := [.inr (.inr (some (1, j, 0))), .inl (pl (sl M j) b (M 6 j t 2)), .inl (M 6 j t 2), .inl 2]) (rest := []) rfl (d_mark (by omega) (by omega)) ?_
  intro rr M2 hqM2
  obtain ⟨rfl, hM2⟩ := hqM2
  subst hM2
  show EvI X E_X5_moveTicket (70, [some (.inr (.inr (some (5, j, 0)))), some (.inl t), some (.inl b), some (.inr (.inr (some (6, j, t)))), some (.inl ((M 6 j t 1) / 100))], [], (bcM (wri (bcM M j (M 6 j t 1) (M 6 j t 2) 0) 6 j t 1 (pl (sl M j) b (M 6 j t 2))) j (pl (sl M j) b (M 6 j t 2)) (M 6 j t 2) 2)) _
  refine seg_ok 3 (?_ : EvI X E_X5_moveTicket (75, [some (.inr (.inr (some (5, j, 0)))), some (.inl t), some (.inl b), some (.inr (.inr (some (6, j, t)))), some (.inl ((M 6 j t 1) / 100))], [.inl ((wri (bcM M j (M 6 j t 1) (M 6 j t 2) 0) 6 j t 1 (pl (sl M j) b (M 6 j t 2))) 6 j t 4), .inr (.inr (some (6, j, t)))], (bcM (wri (bcM M j (M 6 j t 1) (M 6 j t 2) 0) 6 j t 1 (pl (sl M j) b (M 6 j t 2))) j (pl (sl M j) b (M 6 j t 2)) (M 6 j t 2) 2)) _)
  rw [show ((wri (bcM M j (M 6 j t 1) (M 6 j t 2) 0) 6 j t 1 (pl (sl M j) b (M 6 j t 2))) 6 j t 4) = (M 6 j t 4) from wri_nes (by decide)]
  refine seg_ok 10 (⟨by omega, by omega, ?_⟩ : ((-2147483648 : Int) ≤ ((M 6 j t 4) + 1) ∧ ((M 6 j t 4) + 1) < 2147483648) ∧ ((-2147483648 : Int) ≤ ((M 5 j 0 9) + 1) ∧ ((M 5 j 0 9) + 1) < 2147483648) ∧ EvI X E_X5_moveTicket (92, [some (.inr (.inr (some (5, j, 0)))), some (.inl t), some (.inl b), some (.inr (.inr (some (6, j, t)))), some (.inl ((M 6 j t 1) / 100))], [.inl ((M 6 j t 1) / 100)], (wri (wri (bcM (wri (bcM M j (M 6 j t 1) (M 6 j t 2) 0) 6 j t 1 (pl (sl M j) b (M 6 j t 2))) j (pl (sl M j) b (M 6 j t 2)) (M 6 j t 2) 2) 6 j t 4 ((M 6 j t 4) + 1)) 5 j 0 9 ((M 5 j 0 9) + 1))) _)
  refine ev_rt (r := some (.inl ((M 6 j t 1) / 100))) rfl (?_)
  exact ⟨rfl, by simp only [sl_wri, sl_bcM, mvS] <;> try rfl, FR_wri stK_5 (FR_wri stK_6 (FR_bc (FR_wri stK_6 (FR_bc (FR_rf)))))⟩
theorem d_nextMover2 {m : Int} {M : NM} {j : Int} (hI : Inv m (sl M j)) {b : Int} (h1 : 0 ≤ b ∧ b < M 1 j 0 3) : HT X z_X5_nextMover [.inr (.inr (some (5, j, 0))), .inl b] M (fun rr MM => rr = some (.inl (nm (sl M j) b)) ∧ MM = M) := by
  have e : ff (fun t => M 6 j t 0 = 0 ∧ M 6 j t 2 ≤ gN (sl M j) b 10 ∧ rk (sl M j) (M 6 j t 1 / 100) < rk (sl M j) b) (M 5 j 0 4).toNat 0 = nm (sl M j) b := ff_cg _ _ (fun t t0 t1 => by
    have hi := hI.1.2.2.2.2.2.1
    have hh := HO_t hI (t := t) ⟨t0, by simp only [sl] at hi ⊢; omega⟩
    have q := gN_iff hI (b := b) (n := M 6 j t 2) h1 ⟨hh.2.1, hh.2.2.1⟩
    exact ⟨fun z => ⟨z.1, z.2.2, q.mp z.2.1⟩, fun z => ⟨z.1, q.mpr z.2.2, z.2.1⟩⟩)
  rw [← e]
  exact d_nextMover hI h1
set_option maxRecDepth 2070 in
theorem d_moveChain {m : Int} {M : NM} {j : Int} (hI : Inv m (sl M j)) (hm : m + 20 ≤ 62000) {t0 : Int} (ht : 0 ≤ t0 ∧ t0 < M 5 j 0 4) : HT X z_X5_moveChain [.inr (.inr (some (5, j, 0))), .inl t0] M (fun rr MM => rr = some (.inl (opChain (sl M j) t0).1) ∧ sl MM j = (opChain (sl M j) t0).2 ∧ FR j M MM) := by
  have hi := hI.1
  simp only [Iv0, sl] at hi
  have hh := HO_r hI (HO_t hI ht)
  have hO := HO_t hI ht
  have hu := upF_Mv hI ht
  simp only [sl] at hh
  obtain ⟨hO0, hO1, hO2, hO3, -, -⟩ := hO
  simp only [sl] at hO0 hO1 hO2 hO3
  obtain ⟨opC, q0⟩ : ∃ q, opChain (sl M j) t0 = q := ⟨_, rfl⟩
  refine ht_of (e := E_X5_moveChain) rfl (?_ : EvI X E_X5_moveChain (0, [some (.inr (.inr (some (5, j, 0)))), some (.inl t0), none, none, none, none], [], M) _)
  refine seg_ok 2 (?_ : EvI X E_X5_moveChain (2, [some (.inr (.inr (some (5, j, 0)))), some (.inl t0), none, none, none, none], [.inl t0, .inr (.inr (some (5, j, 0)))], M) _)
  refine ev_clp (v := .inr (.inr (some (6, j, t0)))) (z := z_X5_ticketAt) (as := [.inr (.inr (some (5, j, 0))), .inl t0]) (rest := []) rfl (d_ticketAt_t ht (by omega)) (?_ : EvI X E_X5_moveChain (5, [some (.inr (.inr (some (5, j, 0)))), some (.inl t0), none, none, none, none], [.inr (.inr (some (6, j, t0)))], M) _)
  refine seg_ok 6 (?_ : EvI X E_X5_moveChain (if (M 6 j t0 0) = 0 then 19 else 17, [some (.inr (.inr (some (5, j, 0)))), some (.inl t0), some (.inr (.inr (some (6, j, t0)))), none, none, none], [], M) _)
  refine ev_if (fun h14 => ?_) (fun h14 => ?_)
  · refine seg_ok 8 (⟨by omega, ?_⟩ : ((0 : Int) ≤ (M 6 j t0 1) ∧ (0 : Int) < 100) ∧ EvI X E_X5_moveChain (34, [some (.inr (.inr (some (5, j, 0)))), some (.inl t0), some (.inr (.inr (some (6, j, t0)))), none, none, none], [.inl (M 6 j t0 2), .inl ((M 6 j t0 1) / 100), .inr (.inr (some (1, j, 0)))], M) _)
    refine ev_clp (v := .inl (upF (sl M j) ((M 6 j t0 1) / 100) (M 6 j t0 2) (M 1 j 0 3).toNat)) (z := z_X1_upgradeFor) (as := [.inr (.inr (some (1, j, 0))), .inl ((M 6 j t0 1) / 100), .inl (M 6 j t0 2)]) (rest := []) rfl (d_upgradeFor hI (by omega) (by omega)) (?_ : EvI X E_X5_moveChain (37, [some (.inr (.inr (some (5, j, 0)))), some (.inl t0), some (.inr (.inr (some (6, j, t0)))), none, none, none], [.inl (upF (sl M j) ((M 6 j t0 1) / 100) (M 6 j t0 2) (M 1 j 0 3).toNat)], M) _)
    refine seg_ok 4 (?_ : EvI X E_X5_moveChain (if (upF (sl M j) ((M 6 j t0 1) / 100) (M 6 j t0 2) (M 1 j 0 3).toNat) = (-9) then 44 else 49, [some (.inr (.inr (some (5, j, 0)))), some (.inl t0), some (.inr (.inr (some (6, j, t0)))), some (.inl (upF (sl M j) ((M 6 j t0 1) / 100) (M 6 j t0 2) (M 1 j 0 3).toNat)), none, none], [], M) _)
    refine ev_if (fun h41 => ?_) (fun h41 => ?_)
    · have hst : opChain (sl M j) t0 = (0 + (chn (sl M j) (upF (sl M j) (M 6 j t0 1 / 100) (M 6 j t0 2) (M 1 j 0 3).toNat) (-9) (20 - 0 : Int).toNat).1, (chn (sl M j) (upF (sl M j) (M 6 j t0 1 / 100) (M 6 j t0 2) (M 1 j 0 3).toNat) (-9) (20 - 0 : Int).toNat).2) := by
        rw [chn_9]; exact (cif_f (fun z => z h14)).trans (cif_t h41)
      have hst5 : (-9 : Int) = -9 ∨ Mv (sl M j) (upF (sl M j) (M 6 j t0 1 / 100) (M 6 j t0 2) (M 1 j 0 3).toNat) (-9) := Or.inl rfl
      refine seg_ok 5 (?_ : EvI X E_X5_moveChain (55, [some (.inr (.inr (some (5, j, 0)))), some (.inl t0), some (.inr (.inr (some (6, j, t0)))), some (.inl (upF (sl M j) ((M 6 j t0 1) / 100) (M 6 j t0 2) (M 1 j 0 3).toNat)), some (.inl (-9)), some (.inl 0)], [], M) _)
      have L55 : ∀ (m55 : Nat) (b t k : Int) (Mk : NM), 20 - k < (m55 : Int) → (0 ≤ k ∧ k ≤ 20) → (FR j M Mk) → (Inv (m + k) (sl Mk j)) → (opC = (k + (chn (sl Mk j) b t (20 - k).toNat).1, (chn (sl Mk j) b t (20 - k).toNat).2)) → (t = -9 ∨ Mv (sl Mk j) b t) → EvI X E_X5_moveChain (55, [some (.inr (.inr (some (5, j, 0)))), some (.inl t0), some (.inr (.inr (some (6, j, t0)))), some (.inl b), some (.inl t), some (.inl k)], [], Mk) (fun rr MM => rr = some (.inl (opChain (sl M j) t0).1) ∧ sl MM j = (opChain (sl M j) t0).2 ∧ FR j M MM) := by
        intro m55
        induction m55 with
        | zero => intro b t k Mk hm55 q1 q2 q3 q4 q5; exact absurd hm55 (by omega)
        | succ m55 ih55 =>
          intro b t k Mk hm55 q1 q2 q3 q4 q5
          refine seg_ok 3 (?_ : EvI X E_X5_moveChain (if k < 20 then 62 else 90, [some (.inr (.inr (some (5, j, 0)))), some (.inl t0), some (.inr (.inr (some (6, j, t0)))), some (.inl b), some (.inl t), some (.inl k)], [], Mk) _)
          refine ev_if (fun h59 => ?_) (fun h59 => ?_)
          · refine seg_ok 3 (?_ : EvI X E_X5_moveChain (if t = (-9) then 90 else 69, [some (.inr (.inr (some (5, j, 0)))), some (.inl t0), some (.inr (.inr (some (6, j, t0)))), some (.inl b), some (.inl t), some (.inl k)], [], Mk) _)
            refine ev_if (fun h66 => ?_) (fun h66 => ?_)
            · have fin : k = (opChain (sl M j) t0).1 ∧ sl Mk j = (opChain (sl M j) t0).2 := by
                rw [q0, q4]
                have e2 : chn (sl Mk j) b t (20 - k).toNat = (0, sl Mk j) := by
                  rw [h66]; exact chn_9 _
                rw [e2]
                exact ⟨(Int.add_zero k).symm, rfl⟩
              refine seg_ok 1 (?_ : EvI X E_X5_moveChain (92, [some (.inr (.inr (some (5, j, 0)))), some (.inl t0), some (.inr (.inr (some (6, j, t0)))), some (.inl b), some (.inl t), some (.inl k)], [.inl k], Mk) _)
              refine ev_rt (r := some (.inl k)) rfl (?_)
              exact ⟨rint fin.1, fin.2, q2⟩
            · have hMv := q5.resolve_left h66
              refine seg_ok 3 (?_ : EvI X E_X5_moveChain (73, [some (.inr (.inr (some (5, j, 0)))), some (.inl t0), some (.inr (.inr (some (6, j, t0)))), some (.inl b), some (.inl t), some (.inl k)], [.inl b, .inl t, .inr (.inr (some (5, j, 0)))], Mk) _)
              refine ev_cl (z := z_X5_moveTicket) (as := [.inr (.inr (some (5, j, 0))), .inl t, .inl b]) (rest := []) rfl (d_moveTicket (m := m + k) q3 (by omega) hMv) ?_
              intro rr M1 hqM1
              obtain ⟨rfl, sM1, fM1⟩ := hqM1
              have hI2 := Inv_move q3 (by omega) hMv
              rw [← sM1] at hI2
              have hL := HO_t q3 hMv.1
              have hL2 := hL.2.2.2.1
              have hL1 : 0 ≤ Mk 6 j t 1 / 100 := by have := hL.1; simp only [sl] at this; omega
              have e3 : M1 1 j 0 3 = Mk 1 j 0 3 := congrFun (congrFun (congrFun sM1 1) 0) 3
              have hi2 := hI2.1
              simp only [Iv0, sl] at hi2 hL2
              show EvI X E_X5_moveChain (76, [some (.inr (.inr (some (5, j, 0)))), some (.inl t0), some (.inr (.inr (some (6, j, t0)))), some (.inl b), some (.inl t), some (.inl k)], [.inl (Mk 6 j t 1 / 100)], M1) _
              refine seg_ok 3 (?_ : EvI X E_X5_moveChain (79, [some (.inr (.inr (some (5, j, 0)))), some (.inl t0), some (.inr (.inr (some (6, j, t0)))), some (.inl (Mk 6 j t 1 / 100)), some (.inl t), some (.inl k)], [.inl (Mk 6 j t 1 / 100), .inr (.inr (some (5, j, 0)))], M1) _)
              refine ev_clp (v := .inl (nm (sl M1 j) (Mk 6 j t 1 / 100))) (z := z_X5_nextMover) (as := [.inr (.inr (some (5, j, 0))), .inl (Mk 6 j t 1 / 100)]) (rest := []) rfl (d_nextMover2 (m := m + k + 1) hI2 ⟨hL1, by omega⟩) (?_ : EvI X E_X5_moveChain (82, [some (.inr (.inr (some (5, j, 0)))), some (.inl t0), some (.inr (.inr (some (6, j, t0)))), some (.inl (Mk 6 j t 1 / 100)), some (.inl t), some (.inl k)], [.inl (nm (sl M1 j) (Mk 6 j t 1 / 100))], M1) _)
              refine seg_ok 3 (⟨by omega, ?_⟩ : ((-2147483648 : Int) ≤ (k + 1) ∧ (k + 1) < 2147483648) ∧ EvI X E_X5_moveChain (55, [some (.inr (.inr (some (5, j, 0)))), some (.inl t0), some (.inr (.inr (some (6, j, t0)))), some (.inl (Mk 6 j t 1 / 100)), some (.inl (nm (sl M1 j) (Mk 6 j t 1 / 100))), some (.inl (k + 1))], [], M1) _)
              refine ih55 (Mk 6 j t 1 / 100) (nm (sl M1 j) (Mk 6 j t 1 / 100)) (k + 1) M1 (by omega) (by omega) (FR_tr q2 fM1) (by rw [show m + (k + 1) = m + k + 1 by omega]; exact hI2) (by
      rw [show (20 - k).toNat = (20 - (k + 1)).toNat + 1 by omega, chn, cif_f h66, ← sM1] at q4
      rw [q4]; exact Prod.ext acc4 rfl) (nm_Mv (S := sl M1 j) (by simp only [sl]; omega) ⟨hL1, by simp only [sl]; omega⟩)
          · have fin : k = (opChain (sl M j) t0).1 ∧ sl Mk j = (opChain (sl M j) t0).2 := by
              rw [q0, q4]
              have e2 : chn (sl Mk j) b t (20 - k).toNat = (0, sl Mk j) := by
                rw [show (20 - k).toNat = 0 by omega]; rfl
              rw [e2]
              exact ⟨(Int.add_zero k).symm, rfl⟩
            refine seg_ok 1 (?_ : EvI X E_X5_moveChain (92, [some (.inr (.inr (some (5, j, 0)))), some (.inl t0), some (.inr (.inr (some (6, j, t0)))), some (.inl b), some (.inl t), some (.inl k)], [.inl k], Mk) _)
            refine ev_rt (r := some (.inl k)) rfl (?_)
            exact ⟨rint fin.1, fin.2, q2⟩
      refine L55 ((20 - 0) + 1 : Int).toNat (upF (sl M j) ((M 6 j t0 1) / 100) (M 6 j t0 2) (M 1 j 0 3).toNat) (-9) 0 M (by omega) (by omega) FR_rf (by rw [Int.add_zero]; exact hI) (by rw [← q0]; exact hst) hst5
    · have hst : opChain (sl M j) t0 = (0 + (chn (sl M j) (upF (sl M j) (M 6 j t0 1 / 100) (M 6 j t0 2) (M 1 j 0 3).toNat) t0 (20 - 0 : Int).toNat).1, (chn (sl M j) (upF (sl M j) (M 6 j t0 1 / 100) (M 6 j t0 2) (M 1 j 0 3).toNat) t0 (20 - 0 : Int).toNat).2) := by
        rw [Int.zero_add]; exact (cif_f (fun z => z h14)).trans (cif_f h41)
      have hst5 : t0 = -9 ∨ Mv (sl M j) (upF (sl M j) (M 6 j t0 1 / 100) (M 6 j t0 2) (M 1 j 0 3).toNat) t0 := Or.inr ((hu h14).resolve_left h41)
      refine seg_ok 4 (?_ : EvI X E_X5_moveChain (55, [some (.inr (.inr (some (5, j, 0)))), some (.inl t0), some (.inr (.inr (some (6, j, t0)))), some (.inl (upF (sl M j) ((M 6 j t0 1) / 100) (M 6 j t0 2) (M 1 j 0 3).toNat)), some (.inl t0), some (.inl 0)], [], M) _)
      have L55 : ∀ (m55 : Nat) (b t k : Int) (Mk : NM), 20 - k < (m55 : Int) → (0 ≤ k ∧ k ≤ 20) → (FR j M Mk) → (Inv (m + k) (sl Mk j)) → (opC = (k + (chn (sl Mk j) b t (20 - k).toNat).1, (chn (sl Mk j) b t (20 - k).toNat).2)) → (t = -9 ∨ Mv (sl Mk j) b t) → EvI X E_X5_moveChain (55, [some (.inr (.inr (some (5, j, 0)))), some (.inl t0), some (.inr (.inr (some (6, j, t0)))), some (.inl b), some (.inl t), some (.inl k)], [], Mk) (fun rr MM => rr = some (.inl (opChain (sl M j) t0).1) ∧ sl MM j = (opChain (sl M j) t0).2 ∧ FR j M MM) := by
        intro m55
        induction m55 with
        | zero => intro b t k Mk hm55 q1 q2 q3 q4 q5; exact absurd hm55 (by omega)
        | succ m55 ih55 =>
          intro b t k Mk hm55 q1 q2 q3 q4 q5
          refine seg_ok 3 (?_ : EvI X E_X5_moveChain (if k < 20 then 62 else 90, [some (.inr (.inr (some (5, j, 0)))), some (.inl t0), some (.inr (.inr (some (6, j, t0)))), some (.inl b), some (.inl t), some (.inl k)], [], Mk) _)
          refine ev_if (fun h59 => ?_) (fun h59 => ?_)
          · refine seg_ok 3 (?_ : EvI X E_X5_moveChain (if t = (-9) then 90 else 69, [some (.inr (.inr (some (5, j, 0)))), some (.inl t0), some (.inr (.inr (some (6, j, t0)))), some (.inl b), some (.inl t), some (.inl k)], [], Mk) _)
            refine ev_if (fun h66 => ?_) (fun h66 => ?_)
            · have fin : k = (opChain (sl M j) t0).1 ∧ sl Mk j = (opChain (sl M j) t0).2 := by
                rw [q0, q4]
                have e2 : chn (sl Mk j) b t (20 - k).toNat = (0, sl Mk j) := by
                  rw [h66]; exact chn_9 _
                rw [e2]
                exact ⟨(Int.add_zero k).symm, rfl⟩
              refine seg_ok 1 (?_ : EvI X E_X5_moveChain (92, [some (.inr (.inr (some (5, j, 0)))), some (.inl t0), some (.inr (.inr (some (6, j, t0)))), some (.inl b), some (.inl t), some (.inl k)], [.inl k], Mk) _)
              refine ev_rt (r := some (.inl k)) rfl (?_)
              exact ⟨rint fin.1, fin.2, q2⟩
            · have hMv := q5.resolve_left h66
              refine seg_ok 3 (?_ : EvI X E_X5_moveChain (73, [some (.inr (.inr (some (5, j, 0)))), some (.inl t0), some (.inr (.inr (some (6, j, t0)))), some (.inl b), some (.inl t), some (.inl k)], [.inl b, .inl t, .inr (.inr (some (5, j, 0)))], Mk) _)
              refine ev_cl (z := z_X5_moveTicket) (as := [.inr (.inr (some (5, j, 0))), .inl t, .inl b]) (rest := []) rfl (d_moveTicket (m := m + k) q3 (by omega) hMv) ?_
              intro rr M2 hqM2
              obtain ⟨rfl, sM2, fM2⟩ := hqM2
              have hI2 := Inv_move q3 (by omega) hMv
              rw [← sM2] at hI2
              have hL := HO_t q3 hMv.1
              have hL2 := hL.2.2.2.1
              have hL1 : 0 ≤ Mk 6 j t 1 / 100 := by have := hL.1; simp only [sl] at this; omega
              have e3 : M2 1 j 0 3 = Mk 1 j 0 3 := congrFun (congrFun (congrFun sM2 1) 0) 3
              have hi2 := hI2.1
              simp only [Iv0, sl] at hi2 hL2
              show EvI X E_X5_moveChain (76, [some (.inr (.inr (some (5, j, 0)))), some (.inl t0), some (.inr (.inr (some (6, j, t0)))), some (.inl b), some (.inl t), some (.inl k)], [.inl (Mk 6 j t 1 / 100)], M2) _
              refine seg_ok 3 (?_ : EvI X E_X5_moveChain (79, [some (.inr (.inr (some (5, j, 0)))), some (.inl t0), some (.inr (.inr (some (6, j, t0)))), some (.inl (Mk 6 j t 1 / 100)), some (.inl t), some (.inl k)], [.inl (Mk 6 j t 1 / 100), .inr (.inr (some (5, j, 0)))], M2) _)
              refine ev_clp (v := .inl (nm (sl M2 j) (Mk 6 j t 1 / 100))) (z := z_X5_nextMover) (as := [.inr (.inr (some (5, j, 0))), .inl (Mk 6 j t 1 / 100)]) (rest := []) rfl (d_nextMover2 (m := m + k + 1) hI2 ⟨hL1, by omega⟩) (?_ : EvI X E_X5_moveChain (82, [some (.inr (.inr (some (5, j, 0)))), some (.inl t0), some (.inr (.inr (some (6, j, t0)))), some (.inl (Mk 6 j t 1 / 100)), some (.inl t), some (.inl k)], [.inl (nm (sl M2 j) (Mk 6 j t 1 / 100))], M2) _)
              refine seg_ok 3 (⟨by omega, ?_⟩ : ((-2147483648 : Int) ≤ (k + 1) ∧ (k + 1) < 2147483648) ∧ EvI X E_X5_moveChain (55, [some (.inr (.inr (some (5, j, 0)))), some (.inl t0), some (.inr (.inr (some (6, j, t0)))), some (.inl (Mk 6 j t 1 / 100)), some (.inl (nm (sl M2 j) (Mk 6 j t 1 / 100))), some (.inl (k + 1))], [], M2) _)
              refine ih55 (Mk 6 j t 1 / 100) (nm (sl M2 j) (Mk 6 j t 1 / 100)) (k + 1) M2 (by omega) (by omega) (FR_tr q2 fM2) (by rw [show m + (k + 1) = m + k + 1 by omega]; exact hI2) (by
      rw [show (20 - k).toNat = (20 - (k + 1)).toNat + 1 by omega, chn, cif_f h66, ← sM2] at q4
      rw [q4]; exact Prod.ext acc4 rfl) (nm_Mv (S := sl M2 j) (by simp only [sl]; omega) ⟨hL1, by simp only [sl]; omega⟩)
          · have fin : k = (opChain (sl M j) t0).1 ∧ sl Mk j = (opChain (sl M j) t0).2 := by
              rw [q0, q4]
              have e2 : chn (sl Mk j) b t (20 - k).toNat = (0, sl Mk j) := by
                rw [show (20 - k).toNat = 0 by omega]; rfl
              rw [e2]
              exact ⟨(Int.add_zero k).symm, rfl⟩
            refine seg_ok 1 (?_ : EvI X E_X5_moveChain (92, [some (.inr (.inr (some (5, j, 0)))), some (.inl t0), some (.inr (.inr (some (6, j, t0)))), some (.inl b), some (.inl t), some (.inl k)], [.inl k], Mk) _)
            refine ev_rt (r := some (.inl k)) rfl (?_)
            exact ⟨rint fin.1, fin.2, q2⟩
      refine L55 ((20 - 0) + 1 : Int).toNat (upF (sl M j) ((M 6 j t0 1) / 100) (M 6 j t0 2) (M 1 j 0 3).toNat) t0 0 M (by omega) (by omega) FR_rf (by rw [Int.add_zero]; exact hI) (by rw [← q0]; exact hst) hst5
  · refine seg_ok 1 (?_ : EvI X E_X5_moveChain (18, [some (.inr (.inr (some (5, j, 0)))), some (.inl t0), some (.inr (.inr (some (6, j, t0)))), none, none, none], [.inl 0], M) _)
    refine ev_rt (r := some (.inl 0)) rfl (?_)
    have e : opChain (sl M j) t0 = (0, sl M j) := cif_t h14
    exact ⟨rint (by rw [e]), by rw [e], FR_rf⟩
theorem d_upgradeTicket {m : Int} {M : NM} {j : Int} (hI : Inv m (sl M j)) (hm : m + 20 ≤ 62000) {x : Int} : HT X z_X5_upgradeTicket [.inr (.inr (some (5, j, 0))), .inl x] M (fun rr MM => rr = some (.inl (opUpg (sl M j) x).1) ∧ sl MM j = (opUpg (sl M j) x).2 ∧ FR j M MM) := by
  have hi := hI.1
  simp only [Iv0, sl] at hi
  refine ht_of (e := E_X5_upgradeTicket) rfl (?_ : EvI X E_X5_upgradeTicket (0, [some (.inr (.inr (some (5, j, 0)))), some (.inl x), none], [], M) _)
  refine seg_ok 2 (?_ : EvI X E_X5_upgradeTicket (2, [some (.inr (.inr (some (5, j, 0)))), some (.inl x), none], [.inl x, .inr (.inr (some (5, j, 0)))], M) _)
  by_cases hb : 0 ≤ x ∧ x < M 5 j 0 4
  · refine ev_clp (v := .inr (.inr (some (6, j, x)))) (z := z_X5_ticketAt) (as := [.inr (.inr (some (5, j, 0))), .inl x]) (rest := []) rfl (d_ticketAt_t hb (by omega)) (?_ : EvI X E_X5_upgradeTicket (5, [some (.inr (.inr (some (5, j, 0)))), some (.inl x), none], [.inr (.inr (some (6, j, x)))], M) _)
    refine seg_ok 3 (?_ : EvI X E_X5_upgradeTicket (12, [some (.inr (.inr (some (5, j, 0)))), some (.inl x), none], [.inl x, .inr (.inr (some (5, j, 0)))], M) _)
    refine ev_cl (z := z_X5_moveChain) (as := [.inr (.inr (some (5, j, 0))), .inl x]) (rest := []) rfl (d_moveChain hI hm hb) ?_
    intro rr M1 hqM1
    obtain ⟨rfl, sM1, fM1⟩ := hqM1
    show EvI X E_X5_upgradeTicket (15, [some (.inr (.inr (some (5, j, 0)))), some (.inl x), none], [.inl ((opChain (sl M j) x).1)], M1) _
    refine seg_ok 3 (?_ : EvI X E_X5_upgradeTicket (if ((opChain (sl M j) x).1) = 0 then 20 else 25, [some (.inr (.inr (some (5, j, 0)))), some (.inl x), some (.inl ((opChain (sl M j) x).1))], [], M1) _)
    refine ev_if (fun h17 => ?_) (fun h17 => ?_)
    · refine seg_ok 2 (?_ : EvI X E_X5_upgradeTicket (26, [some (.inr (.inr (some (5, j, 0)))), some (.inl x), some (.inl ((opChain (sl M j) x).1))], [.inl (-2)], M1) _)
      refine ev_rt (r := some (.inl (-2))) rfl (?_)
      have e : opUpg (sl M j) x = (-2, (opChain (sl M j) x).2) := (cif_f (fun z => z hb)).trans (cif_t h17)
      exact ⟨rint (by rw [e]), by rw [e]; exact sM1, fM1⟩
    · refine seg_ok 1 (?_ : EvI X E_X5_upgradeTicket (26, [some (.inr (.inr (some (5, j, 0)))), some (.inl x), some (.inl ((opChain (sl M j) x).1))], [.inl ((opChain (sl M j) x).1)], M1) _)
      refine ev_rt (r := some (.inl ((opChain (sl M j) x).1))) rfl (?_)
      have e : opUpg (sl M j) x = opChain (sl M j) x := (cif_f (fun z => z hb)).trans (cif_f h17)
      exact ⟨rint (by rw [e]), by rw [e]; exact sM1, fM1⟩
  · refine ev_clp (v := .inr (.inr none)) (z := z_X5_ticketAt) (as := [.inr (.inr (some (5, j, 0))), .inl x]) (rest := []) rfl (d_ticketAt_f hb) (?_ : EvI X E_X5_upgradeTicket (5, [some (.inr (.inr (some (5, j, 0)))), some (.inl x), none], [.inr (.inr none)], M) _)
    refine seg_ok 2 (?_ : EvI X E_X5_upgradeTicket (9, [some (.inr (.inr (some (5, j, 0)))), some (.inl x), none], [.inl (-1)], M) _)
    refine ev_rt (r := some (.inl (-1))) rfl (?_)
    have e : opUpg (sl M j) x = (-1, sl M j) := cif_t hb
    exact ⟨rint (by rw [e]), by rw [e], FR_rf⟩
end
