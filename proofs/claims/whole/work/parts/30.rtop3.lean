/-! 30: the reference: adding, undo, looking -/
theorem err0 {v : Int} {M : NM} {S : Sl} (hR : RR (M 17 0 0) S) (hS : SHo (M 17 0 0) S) (hv : v < 0) : RR (wri M 8 0 0 0 0 17 0 0) S ∧ SHo (wri M 8 0 0 0 0 17 0 0) S ∧ KPT v M (wri M 8 0 0 0 0) :=
  errP hR hS (fun K h => wri_K (fun z => h (Or.inl z))) (fun j i s h => wri_nes h) hv
theorem recP {v : Int} {M M1 MM : NM} (hv : 0 ≤ v) (k : HK (wri M 8 0 0 0 0 17 0 0) (wri M 8 0 0 0 0) M1) (b : Fo (fun K => K = 8 ∨ K = 18 ∨ K = 19) (wri M 8 0 0 0 0) M1) (d : F8s 4 (wri M 8 0 0 0 0) M1) (g : F17 M1 MM) : KPT v M MM := by
  have e8 : MM 8 = M1 8 := g 8 (by decide)
  have e19 : MM 19 = M1 19 := g 19 (by decide)
  have e17 : wri M 8 0 0 0 0 17 = M 17 := wri_K (by decide)
  have f19 : wri M 8 0 0 0 0 19 = M 19 := wri_K (by decide)
  refine ⟨fun _ => ?_, fun z => by omega, fun K h => ?_, ?_⟩
  · have := HK_cg (P' := M 17 0 0) (M' := M) k (fun x _ _ => by rw [e17]) rfl (fun x => by rw [f19])
    unfold HK at *
    rw [e8, e19]; exact this
  · exact (g K (fun z => h (Or.inr (Or.inl z)))).trans ((b K (fun z => h (z.elim Or.inl (fun y => Or.inr (Or.inr y))))).trans (wri_K (fun z => h (Or.inl z))))
  · rw [e8]; exact (d 0 0 6 (by decide)).trans (wri_nes (by decide))
noncomputable def pcD (S : Sl) (x f t r s : Int) : Sl := fun K i c => cif (K = 14 ∧ i = 0 ∧ pcI f t c ∧ (c / 10 < r ∨ (c / 10 = r ∧ c % 10 < s))) (orI (S 14 0 c) (shlI 1 x)) (S K i c)
theorem pcD_cg {S : Sl} {x f t r s r' s' : Int} (h : ∀ c, pcI f t c → ((c / 10 < r ∨ (c / 10 = r ∧ c % 10 < s)) ↔ (c / 10 < r' ∨ (c / 10 = r' ∧ c % 10 < s')))) : pcD S x f t r s = pcD S x f t r' s' := by
  funext K i c
  unfold pcD
  rw [show (K = 14 ∧ i = 0 ∧ pcI f t c ∧ (c / 10 < r ∨ (c / 10 = r ∧ c % 10 < s))) = (K = 14 ∧ i = 0 ∧ pcI f t c ∧ (c / 10 < r' ∨ (c / 10 = r' ∧ c % 10 < s'))) from propext ⟨fun z => ⟨z.1, z.2.1, z.2.2.1, (h c z.2.2.1).mp z.2.2.2⟩, fun z => ⟨z.1, z.2.1, z.2.2.1, (h c z.2.2.1).mpr z.2.2.2⟩⟩]
theorem pcD_0 {S : Sl} {x f t : Int} (hf : 0 ≤ f) : pcD S x f t (f / 10) (f % 10) = S := by
  funext K i c
  exact cif_f (fun z => by obtain ⟨_, _, ⟨z1, z2, z3, z4⟩, z5⟩ := z; omega)
theorem pcD_end {S : Sl} {x f t : Int} (ht : 0 ≤ t) : pcD S x f t (t / 10 + 1) (f % 10) = pcS S x f t := by
  funext K i c
  unfold pcD pcS
  rw [show (K = 14 ∧ i = 0 ∧ pcI f t c ∧ (c / 10 < t / 10 + 1 ∨ (c / 10 = t / 10 + 1 ∧ c % 10 < f % 10))) = (K = 14 ∧ i = 0 ∧ pcI f t c) from propext ⟨fun z => ⟨z.1, z.2.1, z.2.2.1⟩, fun z => ⟨z.1, z.2.1, z.2.2, Or.inl (by have := z.2.2.2.1; omega)⟩⟩]
theorem pcD_s {S : Sl} {x f t r s : Int} (hs : 0 ≤ s ∧ s < 10) (h : pcI f t (10 * r + s)) : pcD S x f t r (s + 1) = st (st (pcD S x f t r s) 13 0 (10 * r + s) (S 13 0 (10 * r + s))) 14 0 (10 * r + s) (orI (S 14 0 (10 * r + s)) (shlI 1 x)) := by
  funext K i c
  by_cases z : K = 14 ∧ i = 0 ∧ c = 10 * r + s
  · obtain ⟨rfl, rfl, rfl⟩ := z
    rw [st_eq]
    exact cif_t ⟨rfl, rfl, h, Or.inr ⟨by omega, by omega⟩⟩
  · rw [show st (st (pcD S x f t r s) 13 0 (10 * r + s) (S 13 0 (10 * r + s))) 14 0 (10 * r + s) (orI (S 14 0 (10 * r + s)) (shlI 1 x)) K i c = st (pcD S x f t r s) 13 0 (10 * r + s) (S 13 0 (10 * r + s)) K i c from if_neg z]
    have e1 : pcD S x f t r (s + 1) K i c = pcD S x f t r s K i c := by
      unfold pcD
      by_cases y : K = 14 ∧ i = 0 ∧ pcI f t c ∧ (c / 10 < r ∨ (c / 10 = r ∧ c % 10 < s))
      · rw [cif_t y, cif_t ⟨y.1, y.2.1, y.2.2.1, y.2.2.2.imp id (fun w => ⟨w.1, by omega⟩)⟩]
      · rw [cif_f y, cif_f (fun w => by
          by_cases q : c = 10 * r + s
          · exact z ⟨w.1, w.2.1, q⟩
          · exact y ⟨w.1, w.2.1, w.2.2.1, w.2.2.2.imp id (fun u => ⟨u.1, by omega⟩)⟩)]
    rw [e1]
    by_cases y : K = 13 ∧ i = 0 ∧ c = 10 * r + s
    · obtain ⟨rfl, rfl, rfl⟩ := y
      rw [st_eq]; exact cif_f (fun w => by cases w.1)
    · exact (if_neg y).symm
section
variable {X : XI}
set_option maxRecDepth 2850 in
theorem c_addBlock {m : Int} {M : NM} {S : Sl} (hW : RW m M S) (hS : SHo (M 17 0 0) S) (hA : 0 ≤ M 8 0 0 4 ∧ M 8 0 0 4 ≤ 5) {x y z : Int} : HT X z_X8_addBlock [.inr (.inr (some (8, 0, 0))), .inl x, .inl y, .inl z] M (fun rr MM => rr = some (.inl (opBlock S x y z).1) ∧ RR (MM 17 0 0) (opBlock S x y z).2 ∧ SHo (MM 17 0 0) (opBlock S x y z).2 ∧ KPT (opBlock S x y z).1 M MM) := by
  have hs := hW.1.1
  have hi := hW.2.1
  unfold Iv0 at hi
  have hW0 : RW m (wri M 8 0 0 0 0) S := RW_fr (wri_K (by decide)) hW
  refine ht_of (e := E_X8_addBlock) rfl (?_ : EvI X E_X8_addBlock (0, [some (.inr (.inr (some (8, 0, 0)))), some (.inl x), some (.inl y), some (.inl z), none], [], M) _)
  refine seg_ok 6 (?_ : EvI X E_X8_addBlock (9, [some (.inr (.inr (some (8, 0, 0)))), some (.inl x), some (.inl y), some (.inl z), none], [.inl 6, .inl 1, .inl x], (wri M 8 0 0 0 0)) _)
  refine ev_clp (v := .inl (bi (1 ≤ x ∧ x ≤ 6))) (z := z_X8_in) (as := [.inl x, .inl 1, .inl 6]) (rest := []) rfl c_in (?_ : EvI X E_X8_addBlock (12, [some (.inr (.inr (some (8, 0, 0)))), some (.inl x), some (.inl y), some (.inl z), none], [.inl (bi (1 ≤ x ∧ x ≤ 6))], (wri M 8 0 0 0 0)) _)
  refine seg_ok 1 (?_ : EvI X E_X8_addBlock (if (bi (1 ≤ x ∧ x ≤ 6)) = 0 then 36 else 15, [some (.inr (.inr (some (8, 0, 0)))), some (.inl x), some (.inl y), some (.inl z), none], [], (wri M 8 0 0 0 0)) _)
  refine ev_ifb (fun h12 => ?_) (fun h12 => ?_)
  · refine seg_ok 1 (?_ : EvI X E_X8_addBlock (37, [some (.inr (.inr (some (8, 0, 0)))), some (.inl x), some (.inl y), some (.inl z), none], [.inl (-1)], (wri M 8 0 0 0 0)) _)
    refine ev_rt (r := some (.inl (-1))) rfl (?_)
    have e : opBlock S x y z = (-1, S) := cif_t (by omega)
    exact ⟨rint (by rw [e]), by rw [e]; exact err0 hW.1 hS (by dsimp only; decide)⟩
  · refine seg_ok 3 (?_ : EvI X E_X8_addBlock (19, [some (.inr (.inr (some (8, 0, 0)))), some (.inl x), some (.inl y), some (.inl z), none], [.inl 10, .inl 1, .inl y], (wri M 8 0 0 0 0)) _)
    refine ev_clp (v := .inl (bi (1 ≤ y ∧ y ≤ 10))) (z := z_X8_in) (as := [.inl y, .inl 1, .inl 10]) (rest := []) rfl c_in (?_ : EvI X E_X8_addBlock (22, [some (.inr (.inr (some (8, 0, 0)))), some (.inl x), some (.inl y), some (.inl z), none], [.inl (bi (1 ≤ y ∧ y ≤ 10))], (wri M 8 0 0 0 0)) _)
    refine seg_ok 1 (?_ : EvI X E_X8_addBlock (if (bi (1 ≤ y ∧ y ≤ 10)) = 0 then 36 else 25, [some (.inr (.inr (some (8, 0, 0)))), some (.inl x), some (.inl y), some (.inl z), none], [], (wri M 8 0 0 0 0)) _)
    refine ev_ifb (fun h22 => ?_) (fun h22 => ?_)
    · refine seg_ok 1 (?_ : EvI X E_X8_addBlock (37, [some (.inr (.inr (some (8, 0, 0)))), some (.inl x), some (.inl y), some (.inl z), none], [.inl (-1)], (wri M 8 0 0 0 0)) _)
      refine ev_rt (r := some (.inl (-1))) rfl (?_)
      have e : opBlock S x y z = (-1, S) := cif_t (by omega)
      exact ⟨rint (by rw [e]), by rw [e]; exact err0 hW.1 hS (by dsimp only; decide)⟩
    · refine seg_ok 3 (?_ : EvI X E_X8_addBlock (30, [some (.inr (.inr (some (8, 0, 0)))), some (.inl x), some (.inl y), some (.inl z), none], [.inl 500, .inl 1, .inl z], (wri M 8 0 0 0 0)) _)
      refine ev_clp (v := .inl (bi (1 ≤ z ∧ z ≤ 500))) (z := z_X8_in) (as := [.inl z, .inl 1, .inl 500]) (rest := []) rfl c_in (?_ : EvI X E_X8_addBlock (33, [some (.inr (.inr (some (8, 0, 0)))), some (.inl x), some (.inl y), some (.inl z), none], [.inl (bi (1 ≤ z ∧ z ≤ 500))], (wri M 8 0 0 0 0)) _)
      refine seg_ok 1 (?_ : EvI X E_X8_addBlock (if (bi (1 ≤ z ∧ z ≤ 500)) = 0 then 36 else 38, [some (.inr (.inr (some (8, 0, 0)))), some (.inl x), some (.inl y), some (.inl z), none], [], (wri M 8 0 0 0 0)) _)
      refine ev_ifb (fun h33 => ?_) (fun h33 => ?_)
      · refine seg_ok 1 (?_ : EvI X E_X8_addBlock (37, [some (.inr (.inr (some (8, 0, 0)))), some (.inl x), some (.inl y), some (.inl z), none], [.inl (-1)], (wri M 8 0 0 0 0)) _)
        refine ev_rt (r := some (.inl (-1))) rfl (?_)
        have e : opBlock S x y z = (-1, S) := cif_t (by omega)
        exact ⟨rint (by rw [e]), by rw [e]; exact err0 hW.1 hS (by dsimp only; decide)⟩
      · refine seg_ok 4 (⟨by omega, ?_⟩ : ((0 : Int) ≤ 6 ∧ (6 : Int) < 589) ∧ EvI X E_X8_addBlock (45, [some (.inr (.inr (some (8, 0, 0)))), some (.inl x), some (.inl y), some (.inl z), none], [.inl ((wri M 8 0 0 0 0) 17 0 0 6)], (wri M 8 0 0 0 0)) _)
        rw [show ((wri M 8 0 0 0 0) 17 0 0 6) = (S 1 0 3) from sc6 ((show RR ((wri M 8 0 0 0 0) 17 0 0) S by rw [wri_K (by decide)]; exact hW.1))]
        refine seg_ok 2 (?_ : EvI X E_X8_addBlock (if (S 1 0 3) = 6 then 50 else 53, [some (.inr (.inr (some (8, 0, 0)))), some (.inl x), some (.inl y), some (.inl z), none], [], (wri M 8 0 0 0 0)) _)
        refine ev_if (fun h47 => ?_) (fun h47 => ?_)
        · refine seg_ok 1 (?_ : EvI X E_X8_addBlock (52, [some (.inr (.inr (some (8, 0, 0)))), some (.inl x), some (.inl y), some (.inl z), none], [.inl (-3)], (wri M 8 0 0 0 0)) _)
          refine ev_rt (r := some (.inl (-3))) rfl (?_)
          have e : opBlock S x y z = (-3, S) := (cif_f (by omega)).trans (cif_t h47)
          exact ⟨rint (by rw [e]), by rw [e]; exact err0 hW.1 hS (by dsimp only; decide)⟩
        · refine seg_ok 1 (?_ : EvI X E_X8_addBlock (54, [some (.inr (.inr (some (8, 0, 0)))), some (.inl x), some (.inl y), some (.inl z), none], [.inr (.inr (some (8, 0, 0)))], (wri M 8 0 0 0 0)) _)
          refine ev_cl (z := z_X8_record) (as := [.inr (.inr (some (8, 0, 0)))]) (rest := []) rfl (c_record (M := (wri M 8 0 0 0 0)) (show 0 ≤ M 8 0 0 4 ∧ M 8 0 0 4 ≤ 5 from hA)) ?_
          intro rr M1 hqM1
          obtain ⟨rfl, kM1, bM1, dM1⟩ := hqM1
          have xM1 : M1 17 = M 17 := (bM1 17 (by decide)).trans (wri_K (by decide))
          have hWM1 : RW m M1 S := RW_fr xM1 hW
          show EvI X E_X8_addBlock (57, [some (.inr (.inr (some (8, 0, 0)))), some (.inl x), some (.inl y), some (.inl z), none], [], M1) _
          refine seg_ok 6 (⟨by omega, ?_⟩ : ((0 : Int) ≤ 6 ∧ (6 : Int) < 589) ∧ EvI X E_X8_addBlock (67, [some (.inr (.inr (some (8, 0, 0)))), some (.inl x), some (.inl y), some (.inl z), none], [.inl (M1 17 0 0 6), .inl 3, .inl 11], M1) _)
          rw [show (M1 17 0 0 6) = (S 1 0 3) from sc6 (hWM1.1)]
          refine seg_ok 29 (⟨by omega, by omega, by omega, by omega, by omega, by omega, by omega, by omega, by omega, ?_⟩ : ((-2147483648 : Int) ≤ (3 * (S 1 0 3)) ∧ (3 * (S 1 0 3)) < 2147483648) ∧ ((-2147483648 : Int) ≤ (11 + (3 * (S 1 0 3))) ∧ (11 + (3 * (S 1 0 3))) < 2147483648) ∧ ((-2147483648 : Int) ≤ ((11 + (3 * (S 1 0 3))) + 0) ∧ ((11 + (3 * (S 1 0 3))) + 0) < 2147483648) ∧ ((0 : Int) ≤ ((11 + (3 * (S 1 0 3))) + 0) ∧ ((11 + (3 * (S 1 0 3))) + 0) < 589) ∧ ((-2147483648 : Int) ≤ ((11 + (3 * (S 1 0 3))) + 1) ∧ ((11 + (3 * (S 1 0 3))) + 1) < 2147483648) ∧ ((0 : Int) ≤ ((11 + (3 * (S 1 0 3))) + 1) ∧ ((11 + (3 * (S 1 0 3))) + 1) < 589) ∧ ((-2147483648 : Int) ≤ ((11 + (3 * (S 1 0 3))) + 2) ∧ ((11 + (3 * (S 1 0 3))) + 2) < 2147483648) ∧ ((0 : Int) ≤ ((11 + (3 * (S 1 0 3))) + 2) ∧ ((11 + (3 * (S 1 0 3))) + 2) < 589) ∧ ((0 : Int) ≤ 6 ∧ (6 : Int) < 589) ∧ EvI X E_X8_addBlock (109, [some (.inr (.inr (some (8, 0, 0)))), some (.inl x), some (.inl y), some (.inl z), some (.inl (11 + (3 * (S 1 0 3))))], [.inl ((wri (wri (wri M1 17 0 0 ((11 + (3 * (S 1 0 3))) + 0) x) 17 0 0 ((11 + (3 * (S 1 0 3))) + 1) y) 17 0 0 ((11 + (3 * (S 1 0 3))) + 2) z) 17 0 0 6), .inl 6, .inr (.inr (some (17, 0, 0)))], (wri (wri (wri M1 17 0 0 ((11 + (3 * (S 1 0 3))) + 0) x) 17 0 0 ((11 + (3 * (S 1 0 3))) + 1) y) 17 0 0 ((11 + (3 * (S 1 0 3))) + 2) z)) _)
          rw [show ((wri (wri (wri M1 17 0 0 ((11 + (3 * (S 1 0 3))) + 0) x) 17 0 0 ((11 + (3 * (S 1 0 3))) + 1) y) 17 0 0 ((11 + (3 * (S 1 0 3))) + 2) z) 17 0 0 6) = (S 1 0 3) from (wri_nes (by omega)).trans ((wri_nes (by omega)).trans ((wri_nes (by omega)).trans (sc6 (hWM1.1))))]
          refine seg_ok 7 (⟨by omega, by omega, by omega, ?_⟩ : ((-2147483648 : Int) ≤ ((S 1 0 3) + 1) ∧ ((S 1 0 3) + 1) < 2147483648) ∧ ((0 : Int) ≤ 6 ∧ (6 : Int) < 589) ∧ ((0 : Int) ≤ 6 ∧ (6 : Int) < 589) ∧ EvI X E_X8_addBlock (119, [some (.inr (.inr (some (8, 0, 0)))), some (.inl x), some (.inl y), some (.inl z), some (.inl (11 + (3 * (S 1 0 3))))], [.inl ((wri (wri (wri (wri M1 17 0 0 ((11 + (3 * (S 1 0 3))) + 0) x) 17 0 0 ((11 + (3 * (S 1 0 3))) + 1) y) 17 0 0 ((11 + (3 * (S 1 0 3))) + 2) z) 17 0 0 6 ((S 1 0 3) + 1)) 17 0 0 6)], (wri (wri (wri (wri M1 17 0 0 ((11 + (3 * (S 1 0 3))) + 0) x) 17 0 0 ((11 + (3 * (S 1 0 3))) + 1) y) 17 0 0 ((11 + (3 * (S 1 0 3))) + 2) z) 17 0 0 6 ((S 1 0 3) + 1))) _)
          rw [show ((wri (wri (wri (wri M1 17 0 0 ((11 + (3 * (S 1 0 3))) + 0) x) 17 0 0 ((11 + (3 * (S 1 0 3))) + 1) y) 17 0 0 ((11 + (3 * (S 1 0 3))) + 2) z) 17 0 0 6 ((S 1 0 3) + 1)) 17 0 0 6) = ((S 1 0 3) + 1) from wri_eq]
          refine seg_ok 2 (⟨by omega, ?_⟩ : ((-2147483648 : Int) ≤ (((S 1 0 3) + 1) - 1) ∧ (((S 1 0 3) + 1) - 1) < 2147483648) ∧ EvI X E_X8_addBlock (121, [some (.inr (.inr (some (8, 0, 0)))), some (.inl x), some (.inl y), some (.inl z), some (.inl (11 + (3 * (S 1 0 3))))], [.inl (((S 1 0 3) + 1) - 1)], (wri (wri (wri (wri M1 17 0 0 ((11 + (3 * (S 1 0 3))) + 0) x) 17 0 0 ((11 + (3 * (S 1 0 3))) + 1) y) 17 0 0 ((11 + (3 * (S 1 0 3))) + 2) z) 17 0 0 6 ((S 1 0 3) + 1))) _)
          refine ev_rt (r := some (.inl (((S 1 0 3) + 1) - 1))) rfl (?_)
          have e : opBlock S x y z = (S 1 0 3, blkS S x y z) := (cif_f (by omega)).trans (cif_f h47)
          show _ ∧ RR ((wri (wri (wri (wri M1 17 0 0 ((11 + (3 * (S 1 0 3))) + 0) x) 17 0 0 ((11 + (3 * (S 1 0 3))) + 1) y) 17 0 0 ((11 + (3 * (S 1 0 3))) + 2) z) 17 0 0 6 ((S 1 0 3) + 1)) 17 0 0) _ ∧ SHo ((wri (wri (wri (wri M1 17 0 0 ((11 + (3 * (S 1 0 3))) + 0) x) 17 0 0 ((11 + (3 * (S 1 0 3))) + 1) y) 17 0 0 ((11 + (3 * (S 1 0 3))) + 2) z) 17 0 0 6 ((S 1 0 3) + 1)) 17 0 0) _ ∧ KPT _ M (wri (wri (wri (wri M1 17 0 0 ((11 + (3 * (S 1 0 3))) + 0) x) 17 0 0 ((11 + (3 * (S 1 0 3))) + 1) y) 17 0 0 ((11 + (3 * (S 1 0 3))) + 2) z) 17 0 0 6 ((S 1 0 3) + 1))
          exact ⟨rint (by rw [e] <;> first | rfl | (dsimp only; omega)), by rw [e]; exact RR_s6 (RR_blk (RR_blk (RR_blk (hWM1.1) (by omega) (by omega)) (by omega) (by omega)) (by omega) (by omega)), by rw [e]; exact SHo_eq hS ((u4_wri (u4_wri (u4_wri (u4_wri (rfl) (by omega)) (by omega)) (by omega)) (by omega)).trans (congrFun (congrFun (congrFun xM1 0) 0) 4)) rfl (fun _ _ _ => Iff.rfl), by rw [e]; exact recP (by dsimp only; omega) kM1 bM1 dM1 (F17_wri (F17_wri (F17_wri (F17_wri (F17_rf)))))⟩
theorem c_addStage {m : Int} {M : NM} {S : Sl} (hW : RW m M S) (hS : SHo (M 17 0 0) S) (hA : 0 ≤ M 8 0 0 4 ∧ M 8 0 0 4 ≤ 5) : HT X z_X8_addStage [.inr (.inr (some (8, 0, 0)))] M (fun rr MM => rr = some (.inl (opStage S).1) ∧ RR (MM 17 0 0) (opStage S).2 ∧ SHo (MM 17 0 0) (opStage S).2 ∧ KPT (opStage S).1 M MM) := by
  have hs := hW.1.1
  have hi := hW.2.1
  unfold Iv0 at hi
  have hW0 : RW m (wri M 8 0 0 0 0) S := RW_fr (wri_K (by decide)) hW
  refine ht_of (e := E_X8_addStage) rfl (?_ : EvI X E_X8_addStage (0, [some (.inr (.inr (some (8, 0, 0))))], [], M) _)
  refine seg_ok 7 (⟨by omega, ?_⟩ : ((0 : Int) ≤ 7 ∧ (7 : Int) < 589) ∧ EvI X E_X8_addStage (12, [some (.inr (.inr (some (8, 0, 0))))], [.inl ((wri M 8 0 0 0 0) 17 0 0 7)], (wri M 8 0 0 0 0)) _)
  rw [show ((wri M 8 0 0 0 0) 17 0 0 7) = (S 1 0 4) from sc7 ((show RR ((wri M 8 0 0 0 0) 17 0 0) S by rw [wri_K (by decide)]; exact hW.1))]
  refine seg_ok 2 (?_ : EvI X E_X8_addStage (if (S 1 0 4) = 4 then 16 else 19, [some (.inr (.inr (some (8, 0, 0))))], [], (wri M 8 0 0 0 0)) _)
  refine ev_if (fun h13 => ?_) (fun h13 => ?_)
  · refine seg_ok 1 (?_ : EvI X E_X8_addStage (18, [some (.inr (.inr (some (8, 0, 0))))], [.inl (-3)], (wri M 8 0 0 0 0)) _)
    refine ev_rt (r := some (.inl (-3))) rfl (?_)
    have e : opStage S = (-3, S) := cif_t h13
    exact ⟨rint (by rw [e]), by rw [e]; exact err0 hW.1 hS (by dsimp only; decide)⟩
  · refine seg_ok 1 (?_ : EvI X E_X8_addStage (20, [some (.inr (.inr (some (8, 0, 0))))], [.inr (.inr (some (8, 0, 0)))], (wri M 8 0 0 0 0)) _)
    refine ev_cl (z := z_X8_record) (as := [.inr (.inr (some (8, 0, 0)))]) (rest := []) rfl (c_record (M := (wri M 8 0 0 0 0)) (show 0 ≤ M 8 0 0 4 ∧ M 8 0 0 4 ≤ 5 from hA)) ?_
    intro rr M1 hqM1
    obtain ⟨rfl, kM1, bM1, dM1⟩ := hqM1
    have xM1 : M1 17 = M 17 := (bM1 17 (by decide)).trans (wri_K (by decide))
    have hWM1 : RW m M1 S := RW_fr xM1 hW
    show EvI X E_X8_addStage (23, [some (.inr (.inr (some (8, 0, 0))))], [], M1) _
    refine seg_ok 5 (⟨by omega, ?_⟩ : ((0 : Int) ≤ 7 ∧ (7 : Int) < 589) ∧ EvI X E_X8_addStage (31, [some (.inr (.inr (some (8, 0, 0))))], [.inl (M1 17 0 0 7), .inl 7, .inr (.inr (some (17, 0, 0)))], M1) _)
    rw [show (M1 17 0 0 7) = (S 1 0 4) from sc7 (hWM1.1)]
    refine seg_ok 7 (⟨by omega, by omega, by omega, ?_⟩ : ((-2147483648 : Int) ≤ ((S 1 0 4) + 1) ∧ ((S 1 0 4) + 1) < 2147483648) ∧ ((0 : Int) ≤ 7 ∧ (7 : Int) < 589) ∧ ((0 : Int) ≤ 7 ∧ (7 : Int) < 589) ∧ EvI X E_X8_addStage (41, [some (.inr (.inr (some (8, 0, 0))))], [.inl ((wri M1 17 0 0 7 ((S 1 0 4) + 1)) 17 0 0 7)], (wri M1 17 0 0 7 ((S 1 0 4) + 1))) _)
    rw [show ((wri M1 17 0 0 7 ((S 1 0 4) + 1)) 17 0 0 7) = ((S 1 0 4) + 1) from wri_eq]
    refine seg_ok 2 (⟨by omega, ?_⟩ : ((-2147483648 : Int) ≤ (((S 1 0 4) + 1) - 1) ∧ (((S 1 0 4) + 1) - 1) < 2147483648) ∧ EvI X E_X8_addStage (43, [some (.inr (.inr (some (8, 0, 0))))], [.inl (((S 1 0 4) + 1) - 1)], (wri M1 17 0 0 7 ((S 1 0 4) + 1))) _)
    refine ev_rt (r := some (.inl (((S 1 0 4) + 1) - 1))) rfl (?_)
    have e : opStage S = (S 1 0 4, st S 1 0 4 (S 1 0 4 + 1)) := cif_f h13
    show _ ∧ RR ((wri M1 17 0 0 7 ((S 1 0 4) + 1)) 17 0 0) _ ∧ SHo ((wri M1 17 0 0 7 ((S 1 0 4) + 1)) 17 0 0) _ ∧ KPT _ M (wri M1 17 0 0 7 ((S 1 0 4) + 1))
    exact ⟨rint (by rw [e] <;> first | rfl | (dsimp only; omega)), by rw [e]; exact RR_s7 (hWM1.1), by rw [e]; exact SHo_eq hS ((u4_wri (rfl) (by omega)).trans (congrFun (congrFun (congrFun xM1 0) 0) 4)) rfl (fun _ _ _ => Iff.rfl), by rw [e]; exact recP (by dsimp only; omega) kM1 bM1 dM1 (F17_wri (F17_rf))⟩
set_option maxRecDepth 2550 in
theorem c_addPiece {m : Int} {M : NM} {S : Sl} (hW : RW m M S) (hS : SHo (M 17 0 0) S) (hA : 0 ≤ M 8 0 0 4 ∧ M 8 0 0 4 ≤ 5) {x f t : Int} : HT X z_X8_addPiece [.inr (.inr (some (8, 0, 0))), .inl x, .inl f, .inl t] M (fun rr MM => rr = some (.inl (opPiece S x f t).1) ∧ RR (MM 17 0 0) (opPiece S x f t).2 ∧ SHo (MM 17 0 0) (opPiece S x f t).2 ∧ KPT (opPiece S x f t).1 M MM) := by
  have hs := hW.1.1
  have hi := hW.2.1
  unfold Iv0 at hi
  have hW0 : RW m (wri M 8 0 0 0 0) S := RW_fr (wri_K (by decide)) hW
  refine ht_of (e := E_X8_addPiece) rfl (?_ : EvI X E_X8_addPiece (0, [some (.inr (.inr (some (8, 0, 0)))), some (.inl x), some (.inl f), some (.inl t), none, none], [], M) _)
  refine seg_ok 5 (?_ : EvI X E_X8_addPiece (7, [some (.inr (.inr (some (8, 0, 0)))), some (.inl x), some (.inl f), some (.inl t), none, none], [.inl x, .inr (.inr (some (8, 0, 0)))], (wri M 8 0 0 0 0)) _)
  refine ev_clp (v := .inl (bi (0 ≤ x ∧ x < S 1 0 4))) (z := z_X8_isStage) (as := [.inr (.inr (some (8, 0, 0))), .inl x]) (rest := []) rfl (c_isStage hW0) (?_ : EvI X E_X8_addPiece (10, [some (.inr (.inr (some (8, 0, 0)))), some (.inl x), some (.inl f), some (.inl t), none, none], [.inl (bi (0 ≤ x ∧ x < S 1 0 4))], (wri M 8 0 0 0 0)) _)
  refine seg_ok 1 (?_ : EvI X E_X8_addPiece (if (bi (0 ≤ x ∧ x < S 1 0 4)) = 0 then 22 else 13, [some (.inr (.inr (some (8, 0, 0)))), some (.inl x), some (.inl f), some (.inl t), none, none], [], (wri M 8 0 0 0 0)) _)
  refine ev_ifb (fun h10 => ?_) (fun h10 => ?_)
  · refine seg_ok 1 (?_ : EvI X E_X8_addPiece (23, [some (.inr (.inr (some (8, 0, 0)))), some (.inl x), some (.inl f), some (.inl t), none, none], [.inl (-1)], (wri M 8 0 0 0 0)) _)
    refine ev_rt (r := some (.inl (-1))) rfl (?_)
    have e : opPiece S x f t = (-1, S) := cif_t (fun z => h10 z.1)
    exact ⟨rint (by rw [e]), by rw [e]; exact err0 hW.1 hS (by dsimp only; decide)⟩
  · refine seg_ok 3 (?_ : EvI X E_X8_addPiece (16, [some (.inr (.inr (some (8, 0, 0)))), some (.inl x), some (.inl f), some (.inl t), none, none], [.inl t, .inl f, .inr (.inr (some (8, 0, 0)))], (wri M 8 0 0 0 0)) _)
    refine ev_clp (v := .inl (bi (isPc S f t))) (z := z_X8_isPiece) (as := [.inr (.inr (some (8, 0, 0))), .inl f, .inl t]) (rest := []) rfl (c_isPiece hW0) (?_ : EvI X E_X8_addPiece (19, [some (.inr (.inr (some (8, 0, 0)))), some (.inl x), some (.inl f), some (.inl t), none, none], [.inl (bi (isPc S f t))], (wri M 8 0 0 0 0)) _)
    refine seg_ok 1 (?_ : EvI X E_X8_addPiece (if (bi (isPc S f t)) = 0 then 22 else 24, [some (.inr (.inr (some (8, 0, 0)))), some (.inl x), some (.inl f), some (.inl t), none, none], [], (wri M 8 0 0 0 0)) _)
    refine ev_ifb (fun h19 => ?_) (fun h19 => ?_)
    · refine seg_ok 1 (?_ : EvI X E_X8_addPiece (23, [some (.inr (.inr (some (8, 0, 0)))), some (.inl x), some (.inl f), some (.inl t), none, none], [.inl (-1)], (wri M 8 0 0 0 0)) _)
      refine ev_rt (r := some (.inl (-1))) rfl (?_)
      have e : opPiece S x f t = (-1, S) := cif_t (fun z => h19 z.2)
      exact ⟨rint (by rw [e]), by rw [e]; exact err0 hW.1 hS (by dsimp only; decide)⟩
    · have k5 := isCh_r hW.2 h19.1
      have k6 := isCh_r hW.2 h19.2.1
      have k7 := h19.2.2
      refine seg_ok 2 (?_ : EvI X E_X8_addPiece (26, [some (.inr (.inr (some (8, 0, 0)))), some (.inl x), some (.inl f), some (.inl t), none, none], [.inl x, .inr (.inr (some (8, 0, 0)))], (wri M 8 0 0 0 0)) _)
      refine ev_clp (v := .inl (bi (upP S x))) (z := z_X8_isUp) (as := [.inr (.inr (some (8, 0, 0))), .inl x]) (rest := []) rfl (c_isUp hW0) (?_ : EvI X E_X8_addPiece (29, [some (.inr (.inr (some (8, 0, 0)))), some (.inl x), some (.inl f), some (.inl t), none, none], [.inl (bi (upP S x))], (wri M 8 0 0 0 0)) _)
      refine seg_ok 1 (?_ : EvI X E_X8_addPiece (if (bi (upP S x)) = 0 then 35 else 32, [some (.inr (.inr (some (8, 0, 0)))), some (.inl x), some (.inl f), some (.inl t), none, none], [], (wri M 8 0 0 0 0)) _)
      refine ev_ifb (fun h29 => ?_) (fun h29 => ?_)
      · refine seg_ok 1 (?_ : EvI X E_X8_addPiece (36, [some (.inr (.inr (some (8, 0, 0)))), some (.inl x), some (.inl f), some (.inl t), none, none], [.inr (.inr (some (8, 0, 0)))], (wri M 8 0 0 0 0)) _)
        refine ev_cl (z := z_X8_record) (as := [.inr (.inr (some (8, 0, 0)))]) (rest := []) rfl (c_record (M := (wri M 8 0 0 0 0)) (show 0 ≤ M 8 0 0 4 ∧ M 8 0 0 4 ≤ 5 from hA)) ?_
        intro rr M1 hqM1
        obtain ⟨rfl, kM1, bM1, dM1⟩ := hqM1
        have xM1 : M1 17 = M 17 := (bM1 17 (by decide)).trans (wri_K (by decide))
        have hWM1 : RW m M1 S := RW_fr xM1 hW
        show EvI X E_X8_addPiece (39, [some (.inr (.inr (some (8, 0, 0)))), some (.inl x), some (.inl f), some (.inl t), none, none], [], M1) _
        refine seg_ok 4 (⟨by omega, ?_⟩ : ((0 : Int) ≤ f ∧ (0 : Int) < 10) ∧ EvI X E_X8_addPiece (45, [some (.inr (.inr (some (8, 0, 0)))), some (.inl x), some (.inl f), some (.inl t), some (.inl (f / 10)), none], [], M1) _)
        have L45 : ∀ (m45 : Nat) (r : Int) (M2 : NM) (d45_5 : Option U), t / 10 + 1 - r < (m45 : Int) → (f / 10 ≤ r) → (r ≤ t / 10 + 1) → (RR (M2 17 0 0) (pcD S x f t r (f % 10))) → (M2 17 0 0 4 = M1 17 0 0 4) → (F17 M1 M2) → EvI X E_X8_addPiece (45, [some (.inr (.inr (some (8, 0, 0)))), some (.inl x), some (.inl f), some (.inl t), some (.inl r), d45_5], [], M2) (fun rr MM => rr = some (.inl (opPiece S x f t).1) ∧ RR (MM 17 0 0) (opPiece S x f t).2 ∧ SHo (MM 17 0 0) (opPiece S x f t).2 ∧ KPT (opPiece S x f t).1 M MM) := by
          intro m45
          induction m45 with
          | zero => intro r M2 d45_5 hm45 q1 q2 q3 q4 q5; exact absurd hm45 (by omega)
          | succ m45 ih45 =>
            intro r M2 d45_5 hm45 q1 q2 q3 q4 q5
            refine seg_ok 5 (⟨by omega, ?_⟩ : ((0 : Int) ≤ t ∧ (0 : Int) < 10) ∧ EvI X E_X8_addPiece (if (t / 10) < r then 103 else 54, [some (.inr (.inr (some (8, 0, 0)))), some (.inl x), some (.inl f), some (.inl t), some (.inl r), d45_5], [], M2) _)
            refine ev_if (fun h51 => ?_) (fun h51 => ?_)
            · have hr : r = t / 10 + 1 := by omega
              have hI2 := Inv_piece hW.2 h10 h19 h29
              have q3e : RR (M2 17 0 0) (pcS S x f t) := RR_eq q3 (by rw [hr]; exact (pcD_end (S := S) (x := x) (f := f) (t := t) (by omega)).symm)
              refine seg_ok 4 (?_ : EvI X E_X8_addPiece (107, [some (.inr (.inr (some (8, 0, 0)))), some (.inl x), some (.inl f), some (.inl t), some (.inl r), d45_5], [.inl 0, .inl 0, .inl x, .inr (.inr (some (8, 0, 0)))], M2) _)
              refine ev_clp (v := .inl (ctA (pcS S x f t) (fun c => fo (pcS S x f t) x c ∧ ¬ ((0 : Int) ≠ 0 ∧ kl (pcS S x f t) c) ∧ ¬ ((0 : Int) ≠ 0 ∧ (pcS S x f t) 13 0 c = 0)))) (z := z_X8_killedBy) (as := [.inr (.inr (some (8, 0, 0))), .inl x, .inl 0, .inl 0]) (rest := []) rfl (c_killedBy (m := m) (S := pcS S x f t) ⟨q3e, hI2⟩ ⟨h10.1, by omega⟩) (?_ : EvI X E_X8_addPiece (110, [some (.inr (.inr (some (8, 0, 0)))), some (.inl x), some (.inl f), some (.inl t), some (.inl r), d45_5], [.inl (ctA (pcS S x f t) (fun c => fo (pcS S x f t) x c ∧ ¬ ((0 : Int) ≠ 0 ∧ kl (pcS S x f t) c) ∧ ¬ ((0 : Int) ≠ 0 ∧ (pcS S x f t) 13 0 c = 0)))], M2) _)
              refine ev_rt (r := some (.inl (ctA (pcS S x f t) (fun c => fo (pcS S x f t) x c ∧ ¬ ((0 : Int) ≠ 0 ∧ kl (pcS S x f t) c) ∧ ¬ ((0 : Int) ≠ 0 ∧ (pcS S x f t) 13 0 c = 0))))) rfl (?_)
              have e : opPiece S x f t = (ctA (pcS S x f t) (fun c => fo (pcS S x f t) x c ∧ ¬ ((0 : Int) ≠ 0 ∧ kl (pcS S x f t) c) ∧ ¬ ((0 : Int) ≠ 0 ∧ (pcS S x f t) 13 0 c = 0)), pcS S x f t) := ((cif_f (fun z => z ⟨h10, h19⟩)).trans (cif_f h29)).trans (by rw [ctA_fo hI2 ⟨h10.1, by omega⟩, ctA_cg hI2 (P := fun c => fo (pcS S x f t) x c) (Q := fun c => fo (pcS S x f t) x c ∧ ¬ ((0 : Int) ≠ 0 ∧ kl (pcS S x f t) c) ∧ ¬ ((0 : Int) ≠ 0 ∧ (pcS S x f t) 13 0 c = 0)) (fun c _ => ⟨fun z => ⟨z, fun y => y.1 rfl, fun y => y.1 rfl⟩, fun z => z.1⟩)])
              exact ⟨rint (by rw [e]), by rw [e]; exact q3e, by rw [e]; exact SHo_eq hS (q4.trans (congrFun (congrFun (congrFun xM1 0) 0) 4)) (cif_f (fun z => by cases z.1)) (fun y _ _ => by
                show pcS S x f t 6 y 0 = 3 ↔ S 6 y 0 = 3
                rw [show pcS S x f t 6 y 0 = S 6 y 0 from cif_f (fun z => by cases z.1)]), by rw [e]; exact recP (by dsimp only; exact (ctA_bnd hI2 _ (n := ((pcS S x f t) 1 0 3).toNat) (by have := hI2.1.2.1; omega)).1) kM1 bM1 dM1 q5⟩
            · refine seg_ok 4 (⟨by omega, ?_⟩ : ((0 : Int) ≤ f ∧ (0 : Int) < 10) ∧ EvI X E_X8_addPiece (60, [some (.inr (.inr (some (8, 0, 0)))), some (.inl x), some (.inl f), some (.inl t), some (.inl r), some (.inl (f % 10))], [], M2) _)
              have L60 : ∀ (m60 : Nat) (s : Int) (M3 : NM), t % 10 + 1 - s < (m60 : Int) → (f % 10 ≤ s) → (s ≤ t % 10 + 1) → (RR (M3 17 0 0) (pcD S x f t r s)) → (M3 17 0 0 4 = M1 17 0 0 4) → (F17 M1 M3) → EvI X E_X8_addPiece (60, [some (.inr (.inr (some (8, 0, 0)))), some (.inl x), some (.inl f), some (.inl t), some (.inl r), some (.inl s)], [], M3) (fun rr MM => rr = some (.inl (opPiece S x f t).1) ∧ RR (MM 17 0 0) (opPiece S x f t).2 ∧ SHo (MM 17 0 0) (opPiece S x f t).2 ∧ KPT (opPiece S x f t).1 M MM) := by
                intro m60
                induction m60 with
                | zero => intro s M3 hm60 p1 p2 p3 p4 p5; exact absurd hm60 (by omega)
                | succ m60 ih60 =>
                  intro s M3 hm60 p1 p2 p3 p4 p5
                  refine seg_ok 5 (⟨by omega, ?_⟩ : ((0 : Int) ≤ t ∧ (0 : Int) < 10) ∧ EvI X E_X8_addPiece (if (t % 10) < s then 97 else 69, [some (.inr (.inr (some (8, 0, 0)))), some (.inl x), some (.inl f), some (.inl t), some (.inl r), some (.inl s)], [], M3) _)
                  refine ev_if (fun h66 => ?_) (fun h66 => ?_)
                  · refine seg_ok 2 (⟨by omega, ?_⟩ : ((-2147483648 : Int) ≤ (r + 1) ∧ (r + 1) < 2147483648) ∧ EvI X E_X8_addPiece (45, [some (.inr (.inr (some (8, 0, 0)))), some (.inl x), some (.inl f), some (.inl t), some (.inl (r + 1)), some (.inl s)], [], M3) _)
                    refine ih45 (r + 1) M3 (some (.inl s)) (by omega) (by omega) (by omega) (RR_eq p3 (pcD_cg (fun c z => by obtain ⟨z1, z2, z3, z4⟩ := z; omega))) p4 p5
                  · have hpc : pcI f t (10 * r + s) := ⟨by omega, by omega, by omega, by omega⟩
                    have hR6 : 0 ≤ 10 * r + s ∧ 10 * r + s < 600 ∧ (10 * r + s) % 100 < 60 := by omega
                    have hC := hW.2.2.2.1 (10 * r + s) hR6.1 hR6.2.1
                    have e14 : M3 17 0 0 (29 + 60 * ((10 * r + s) / 100) + (10 * r + s) % 100) = S 13 0 (10 * r + s) + 4 * S 14 0 (10 * r + s) := by
                      rw [p3.2.2.1 _ hR6.1 hR6.2.1 hR6.2.2, show pcD S x f t r s 13 0 (10 * r + s) = S 13 0 (10 * r + s) from cif_f (fun z => by cases z.1), show pcD S x f t r s 14 0 (10 * r + s) = S 14 0 (10 * r + s) from cif_f (fun z => by have := z.2.2.2; omega)]
                    refine seg_ok 7 (⟨by omega, by omega, ?_⟩ : ((-2147483648 : Int) ≤ (10 * r) ∧ (10 * r) < 2147483648) ∧ ((-2147483648 : Int) ≤ ((10 * r) + s) ∧ ((10 * r) + s) < 2147483648) ∧ EvI X E_X8_addPiece (81, [some (.inr (.inr (some (8, 0, 0)))), some (.inl x), some (.inl f), some (.inl t), some (.inl r), some (.inl s)], [.inl ((10 * r) + s), .inr (.inr (some (17, 0, 0)))], M3) _)
                    refine ev_clp (v := .inl (29 + 60 * ((10 * r + s) / 100) + (10 * r + s) % 100)) (z := z_X8_atChair) (as := [.inl ((10 * r) + s)]) (rest := [.inr (.inr (some (17, 0, 0)))]) rfl (c_atChair (by omega)) (?_ : EvI X E_X8_addPiece (84, [some (.inr (.inr (some (8, 0, 0)))), some (.inl x), some (.inl f), some (.inl t), some (.inl r), some (.inl s)], [.inl (29 + 60 * ((10 * r + s) / 100) + (10 * r + s) % 100), .inr (.inr (some (17, 0, 0)))], M3) _)
                    refine seg_ok 2 (⟨by omega, ?_⟩ : ((0 : Int) ≤ (29 + 60 * ((10 * r + s) / 100) + (10 * r + s) % 100) ∧ (29 + 60 * ((10 * r + s) / 100) + (10 * r + s) % 100) < 589) ∧ EvI X E_X8_addPiece (86, [some (.inr (.inr (some (8, 0, 0)))), some (.inl x), some (.inl f), some (.inl t), some (.inl r), some (.inl s)], [.inl (M3 17 0 0 (29 + 60 * ((10 * r + s) / 100) + (10 * r + s) % 100)), .inl (29 + 60 * ((10 * r + s) / 100) + (10 * r + s) % 100), .inr (.inr (some (17, 0, 0)))], M3) _)
                    rw [show (M3 17 0 0 (29 + 60 * ((10 * r + s) / 100) + (10 * r + s) % 100)) = (S 13 0 (10 * r + s) + 4 * S 14 0 (10 * r + s)) from e14]
                    refine seg_ok 7 (⟨by omega, by omega, ?_⟩ : ((0 : Int) ≤ (29 + 60 * ((10 * r + s) / 100) + (10 * r + s) % 100) ∧ (29 + 60 * ((10 * r + s) / 100) + (10 * r + s) % 100) < 589) ∧ ((-2147483648 : Int) ≤ (s + 1) ∧ (s + 1) < 2147483648) ∧ EvI X E_X8_addPiece (60, [some (.inr (.inr (some (8, 0, 0)))), some (.inl x), some (.inl f), some (.inl t), some (.inl r), some (.inl (s + 1))], [], (wri M3 17 0 0 (29 + 60 * ((10 * r + s) / 100) + (10 * r + s) % 100) (orI (S 13 0 (10 * r + s) + 4 * S 14 0 (10 * r + s)) (shlI 4 x)))) _)
                    refine ih60 (s + 1) (wri M3 17 0 0 (29 + 60 * ((10 * r + s) / 100) + (10 * r + s) % 100) (orI (S 13 0 (10 * r + s) + 4 * S 14 0 (10 * r + s)) (shlI 4 x))) (by omega) (by omega) (by omega) (RR_eq (by rw [b_or4 hC.1 hC.2.1 (by omega)]; exact RR_ch p3 hR6) (pcD_s (by omega) hpc)) (u4_wri p4 (by omega)) (F17_wri p5)
              refine L60 ((t % 10 + 1 - (f % 10)) + 1 : Int).toNat (f % 10) M2 (by omega) (by omega) (by omega) q3 q4 q5
        refine L45 ((t / 10 + 1 - (f / 10)) + 1 : Int).toNat (f / 10) M1 none (by omega) (by omega) (by omega) (RR_eq hWM1.1 (pcD_0 (by omega))) rfl F17_rf
      · refine seg_ok 1 (?_ : EvI X E_X8_addPiece (34, [some (.inr (.inr (some (8, 0, 0)))), some (.inl x), some (.inl f), some (.inl t), none, none], [.inl (-2)], (wri M 8 0 0 0 0)) _)
        refine ev_rt (r := some (.inl (-2))) rfl (?_)
        have e : opPiece S x f t = (-2, S) := (cif_f (fun z => z ⟨h10, h19⟩)).trans (cif_t h29)
        exact ⟨rint (by rw [e]), by rw [e]; exact err0 hW.1 hS (by dsimp only; decide)⟩
theorem c_undo {m : Int} {M : NM} {S : Sl} (hW : RW m M S) (hS : SHo (M 17 0 0) S) (hA : 0 ≤ M 8 0 0 4 ∧ M 8 0 0 4 ≤ 5) : HT X z_X8_undo [.inr (.inr (some (8, 0, 0)))] M (fun rr MM => (M 8 0 0 4 = 0 → rr = some (.inl (-2)) ∧ RR (MM 17 0 0) S ∧ SHo (MM 17 0 0) S ∧ MM 8 0 0 4 = 0) ∧ (M 8 0 0 4 ≠ 0 → rr = some (.inl (M 8 0 0 4 - 1)) ∧ MM 8 0 0 4 = M 8 0 0 4 - 1 ∧ ∀ k, 0 ≤ k → k < 589 → MM 17 0 0 k = M 19 0 0 (589 * (M 8 0 0 4 - 1) + k)) ∧ MM 8 0 0 6 = M 8 0 0 6 ∧ Fo (fun K => K = 8 ∨ K = 17) M MM) := by
  refine ht_of (e := E_X8_undo) rfl (?_ : EvI X E_X8_undo (0, [some (.inr (.inr (some (8, 0, 0)))), none], [], M) _)
  refine seg_ok 5 (?_ : EvI X E_X8_undo (9, [some (.inr (.inr (some (8, 0, 0)))), none], [.inl ((wri M 8 0 0 0 0) 8 0 0 4)], (wri M 8 0 0 0 0)) _)
  rw [show ((wri M 8 0 0 0 0) 8 0 0 4) = (M 8 0 0 4) from wri_nes (by decide)]
  refine seg_ok 1 (?_ : EvI X E_X8_undo (if (M 8 0 0 4) = 0 then 12 else 15, [some (.inr (.inr (some (8, 0, 0)))), none], [], (wri M 8 0 0 0 0)) _)
  refine ev_if (fun h9 => ?_) (fun h9 => ?_)
  · refine seg_ok 1 (?_ : EvI X E_X8_undo (14, [some (.inr (.inr (some (8, 0, 0)))), none], [.inl (-2)], (wri M 8 0 0 0 0)) _)
    refine ev_rt (r := some (.inl (-2))) rfl (?_)
    refine ⟨fun _ => ⟨rfl, ?_⟩, fun z => absurd h9 z, (show wri M 8 0 0 0 0 8 0 0 6 = M 8 0 0 6 from wri_nes (by decide)), fun K h => wri_K (fun z => h (Or.inl z))⟩
    show RR (wri M 8 0 0 0 0 17 0 0) S ∧ SHo (wri M 8 0 0 0 0 17 0 0) S ∧ _
    rw [wri_K (by decide)]
    exact ⟨hW.1, hS, (show wri M 8 0 0 0 0 8 0 0 4 = M 8 0 0 4 from wri_nes (by decide)).trans h9⟩
  · refine seg_ok 3 (?_ : EvI X E_X8_undo (20, [some (.inr (.inr (some (8, 0, 0)))), none], [.inl ((wri M 8 0 0 0 0) 8 0 0 4), .inr (.inr (some (8, 0, 0)))], (wri M 8 0 0 0 0)) _)
    rw [show ((wri M 8 0 0 0 0) 8 0 0 4) = (M 8 0 0 4) from wri_nes (by decide)]
    refine seg_ok 5 (⟨by omega, ?_⟩ : ((-2147483648 : Int) ≤ ((M 8 0 0 4) - 1) ∧ ((M 8 0 0 4) - 1) < 2147483648) ∧ EvI X E_X8_undo (27, [some (.inr (.inr (some (8, 0, 0)))), some (.inl 0)], [], (wri (wri M 8 0 0 0 0) 8 0 0 4 ((M 8 0 0 4) - 1))) _)
    have L27 : ∀ (m27 : Nat) (k : Int) (M1 : NM), 589 - k < (m27 : Int) → (0 ≤ k) → (k ≤ 589) → (∀ k2, 0 ≤ k2 → k2 < k → M1 17 0 0 k2 = M 19 0 0 (589 * (M 8 0 0 4 - 1) + k2)) → (Fo (fun K => K = 8 ∨ K = 17) M M1) → (∀ j i s, s ≠ 0 → s ≠ 4 → M1 8 j i s = M 8 j i s) → (M1 8 0 0 4 = M 8 0 0 4 - 1) → EvI X E_X8_undo (27, [some (.inr (.inr (some (8, 0, 0)))), some (.inl k)], [], M1) (fun rr MM => (M 8 0 0 4 = 0 → rr = some (.inl (-2)) ∧ RR (MM 17 0 0) S ∧ SHo (MM 17 0 0) S ∧ MM 8 0 0 4 = 0) ∧ (M 8 0 0 4 ≠ 0 → rr = some (.inl (M 8 0 0 4 - 1)) ∧ MM 8 0 0 4 = M 8 0 0 4 - 1 ∧ ∀ k, 0 ≤ k → k < 589 → MM 17 0 0 k = M 19 0 0 (589 * (M 8 0 0 4 - 1) + k)) ∧ MM 8 0 0 6 = M 8 0 0 6 ∧ Fo (fun K => K = 8 ∨ K = 17) M MM) := by
      intro m27
      induction m27 with
      | zero => intro k M1 hm27 q1 q2 q3 q4 q5 q6; exact absurd hm27 (by omega)
      | succ m27 ih27 =>
        intro k M1 hm27 q1 q2 q3 q4 q5 q6
        have e4 := q6
        have e19 : ∀ x, M1 19 0 0 x = M 19 0 0 x := fun x => congrFun (congrFun (congrFun (q4 19 (by decide)) 0) 0) x
        refine seg_ok 3 (?_ : EvI X E_X8_undo (if k < 589 then 34 else 61, [some (.inr (.inr (some (8, 0, 0)))), some (.inl k)], [], M1) _)
        refine ev_if (fun h31 => ?_) (fun h31 => ?_)
        · refine seg_ok 15 (⟨by omega, by omega, by omega, by omega, by omega, ?_⟩ : ((-2147483648 : Int) ≤ (589 * (M1 8 0 0 4)) ∧ (589 * (M1 8 0 0 4)) < 2147483648) ∧ ((-2147483648 : Int) ≤ ((589 * (M1 8 0 0 4)) + k) ∧ ((589 * (M1 8 0 0 4)) + k) < 2147483648) ∧ ((0 : Int) ≤ ((589 * (M1 8 0 0 4)) + k) ∧ ((589 * (M1 8 0 0 4)) + k) < 2945) ∧ ((0 : Int) ≤ k ∧ k < 589) ∧ ((-2147483648 : Int) ≤ (k + 1) ∧ (k + 1) < 2147483648) ∧ EvI X E_X8_undo (27, [some (.inr (.inr (some (8, 0, 0)))), some (.inl (k + 1))], [], (wri M1 17 0 0 k (M1 19 0 0 ((589 * (M1 8 0 0 4)) + k)))) _)
          refine ih27 (k + 1) (wri M1 17 0 0 k (M1 19 0 0 ((589 * (M1 8 0 0 4)) + k))) (by omega) (by omega) (by omega) (fun k2 a b => by
      by_cases z : k2 = k
      · rw [z]; exact wri_eq.trans ((e19 _).trans (by rw [e4]))
      · exact (wri_nes z).trans (q3 k2 a (by omega))) (fun K h => (wri_K (fun z => h (Or.inr z))).trans (q4 K h)) (fun j i s a b => (congrFun (congrFun (congrFun (wri_K (by decide)) j) i) s).trans (q5 j i s a b)) ((congrFun (congrFun (congrFun (wri_K (by decide)) 0) 0) 4).trans q6)
        · refine seg_ok 2 (?_ : EvI X E_X8_undo (65, [some (.inr (.inr (some (8, 0, 0)))), some (.inl k)], [.inl (M1 8 0 0 4)], M1) _)
          refine ev_rt (r := some (.inl (M1 8 0 0 4))) rfl (?_)
          obtain rfl : k = 589 := by omega
          exact ⟨fun z => absurd z h9, fun _ => ⟨rint e4, e4, fun k2 a b => q3 k2 a (by omega)⟩, (q5 0 0 6 (by decide) (by decide)), q4⟩
    refine L27 ((589 - 0) + 1 : Int).toNat 0 (wri (wri M 8 0 0 0 0) 8 0 0 4 ((M 8 0 0 4) - 1)) (by omega) (by omega) (by omega) (fun k2 a b => by omega) (fun K h => (wri_K (fun z => h (Or.inl z))).trans (wri_K (fun z => h (Or.inl z)))) (fun j i s a b => (wri_nes b).trans (wri_nes a)) wri_eq
end
