/-! 29: the reference: more calls -/
theorem RR_cg {a a' : Int → Int} {S : Sl} (h : RR a S) (e : ∀ k, 0 ≤ k → k < 589 → a' k = a k) : RR a' S := by
  obtain ⟨⟨h0, h1, h2, h3, h4, h5, h6, h7, h8, h9, h10⟩, hb, hc, hh, ht⟩ := h
  exact ⟨⟨(e 0 (by decide) (by decide)).trans h0, (e 1 (by decide) (by decide)).trans h1, (e 2 (by decide) (by decide)).trans h2, (e 3 (by decide) (by decide)).trans h3, h4, (e 5 (by decide) (by decide)).trans h5, (e 6 (by decide) (by decide)).trans h6, (e 7 (by decide) (by decide)).trans h7, (e 8 (by decide) (by decide)).trans h8, (e 9 (by decide) (by decide)).trans h9, (e 10 (by decide) (by decide)).trans h10⟩, fun b w b0 b1 w0 w1 => (e _ (by omega) (by omega)).trans (hb b w b0 b1 w0 w1), fun c c0 c1 c2 => (e _ (by omega) (by omega)).trans (hc c c0 c1 c2), fun b w b0 b1 w0 w1 => (e _ (by omega) (by omega)).trans (hh b w b0 b1 w0 w1), fun b w b0 b1 w0 w1 => (e _ (by omega) (by omega)).trans (ht b w b0 b1 w0 w1)⟩
theorem errP {v : Int} {M Ma : NM} {S : Sl} (hR : RR (M 17 0 0) S) (hS : SHo (M 17 0 0) S) (a2 : Fo (fun K => K = 8 ∨ K = 18) M Ma) (a3 : F8s 0 M Ma) (hv : v < 0) : RR (Ma 17 0 0) S ∧ SHo (Ma 17 0 0) S ∧ KPT v M Ma := by
  rw [a2 17 (by decide)]
  exact ⟨hR, hS, fun z => by omega, fun _ => ⟨a3 0 0 4 (by decide), a2 19 (by decide)⟩, fun K h => a2 K (fun z => h (z.elim Or.inl (fun y => Or.inr (Or.inr (Or.inl y))))), a3 0 0 6 (by decide)⟩
theorem chn_nn : ∀ (k : Nat) (S : Sl) (b t : Int), 0 ≤ (chn S b t k).1 := by
  intro k
  induction k with
  | zero => intro S b t; exact Int.le_refl _
  | succ k ih =>
    intro S b t
    rw [chn]
    by_cases h : t = -9
    · rw [cif_t h]; exact Int.le_refl _
    · rw [cif_f h]
      have := ih (mvS S t b) (S 6 t 1 / 100) (nm (mvS S t b) (S 6 t 1 / 100))
      show 0 ≤ _ + 1
      omega
theorem opChain_pos {S : Sl} {t : Int} (h0 : S 6 t 0 = 0) (hu : upF S (S 6 t 1 / 100) (S 6 t 2) (S 1 0 3).toNat ≠ -9) (ht : t ≠ -9) : 0 < (opChain S t).1 := by
  unfold opChain
  rw [cif_f (fun z => z h0), cif_f hu]
  show 0 < (chn S _ t (19 + 1)).1
  rw [chn, cif_f ht]
  have := chn_nn 19 (mvS S t (upF S (S 6 t 1 / 100) (S 6 t 2) (S 1 0 3).toNat)) (S 6 t 1 / 100) (nm (mvS S t (upF S (S 6 t 1 / 100) (S 6 t 2) (S 1 0 3).toNat)) (S 6 t 1 / 100))
  show 0 < _ + 1
  omega
theorem noN_in {S : Sl} : ∀ (n : Nat) (t : Int), 0 ≤ t → t < n → noN S n 6 t 0 = cif (S 6 t 0 = 0) 3 (S 6 t 0) := by
  intro n
  induction n with
  | zero => intro t a b; omega
  | succ n ih =>
    intro t a b
    rw [noN]
    by_cases z : t = n
    · subst z
      by_cases q : S 6 n 0 = 0
      · rw [cif_t q, cif_t q]; exact st_eq
      · rw [cif_f q, cif_f q]; exact noN_o n 6 n 0 (by decide) (fun _ => Int.le_refl _)
    · have := ih t a (by omega)
      by_cases q : S 6 n 0 = 0
      · rw [cif_t q]; exact (st_nei z).trans this
      · rw [cif_f q]; exact this
theorem sh_close {a a' : Int → Int} {S : Sl} (hT : 0 ≤ S 5 0 4) (h : SHo a S) (e : a' 4 = a 4 + sm (fun t => bi (S 6 t 0 = 0)) (S 5 0 4).toNat) : SHo a' (noN (st S 5 0 6 1) (S 5 0 4).toNat) := by
  have o4 : noN (st S 5 0 6 1) (S 5 0 4).toNat 5 0 4 = S 5 0 4 := noN_o _ _ _ _ (by decide) (fun z => by cases z)
  unfold SHo
  rw [o4, e, h, ← sm_add]
  refine sm_congr (fun t t0 t1 => ?_)
  rw [noN_in _ t t0 t1]
  show bi (S 6 t 0 = 3) + bi (S 6 t 0 = 0) = bi (cif (S 6 t 0 = 0) 3 (S 6 t 0) = 3)
  by_cases q : S 6 t 0 = 0
  · rw [cif_t q, bi_t q, bi_f (by omega), bi_t rfl]; rfl
  · rw [cif_f q, bi_f q, Int.add_zero]
section
variable {X : XI}
theorem c_takeDown {m : Int} {M : NM} {S : Sl} (hW : RW m M S) (hS : SHo (M 17 0 0) S) (hA : 0 ≤ M 8 0 0 4 ∧ M 8 0 0 4 ≤ 5) {x : Int} : HT X z_X8_takeDown [.inr (.inr (some (8, 0, 0))), .inl x] M (fun rr MM => rr = some (.inl (opDown S x).1) ∧ RR (MM 17 0 0) (opDown S x).2 ∧ SHo (MM 17 0 0) (opDown S x).2 ∧ KPT (opDown S x).1 M MM) := by
  have hs := hW.1.1
  have hi := hW.2.1
  unfold Iv0 at hi
  refine ht_of (e := E_X8_takeDown) rfl (?_ : EvI X E_X8_takeDown (0, [some (.inr (.inr (some (8, 0, 0)))), some (.inl x)], [], M) _)
  refine seg_ok 1 (?_ : EvI X E_X8_takeDown (1, [some (.inr (.inr (some (8, 0, 0)))), some (.inl x)], [.inr (.inr (some (8, 0, 0)))], M) _)
  refine ev_cl (z := z_X8_aside) (as := [.inr (.inr (some (8, 0, 0)))]) (rest := []) rfl c_aside ?_
  intro rr M1 hqM1
  obtain ⟨rfl, aM1, bM1, dM1⟩ := hqM1
  have hWM1 : RW m M1 S := RW_fr (bM1 17 (by decide)) hW
  have hAM1 : 0 ≤ M1 8 0 0 4 ∧ M1 8 0 0 4 ≤ 5 := by rw [dM1 0 0 4 (by decide)]; exact hA
  show EvI X E_X8_takeDown (4, [some (.inr (.inr (some (8, 0, 0)))), some (.inl x)], [], M1) _
  refine seg_ok 2 (?_ : EvI X E_X8_takeDown (6, [some (.inr (.inr (some (8, 0, 0)))), some (.inl x)], [.inl x, .inr (.inr (some (8, 0, 0)))], M1) _)
  refine ev_clp (v := .inl (bi (0 ≤ x ∧ x < S 1 0 4))) (z := z_X8_isStage) (as := [.inr (.inr (some (8, 0, 0))), .inl x]) (rest := []) rfl (c_isStage hWM1) (?_ : EvI X E_X8_takeDown (9, [some (.inr (.inr (some (8, 0, 0)))), some (.inl x)], [.inl (bi (0 ≤ x ∧ x < S 1 0 4))], M1) _)
  refine seg_ok 1 (?_ : EvI X E_X8_takeDown (if (bi (0 ≤ x ∧ x < S 1 0 4)) = 0 then 12 else 14, [some (.inr (.inr (some (8, 0, 0)))), some (.inl x)], [], M1) _)
  refine ev_ifb (fun h9 => ?_) (fun h9 => ?_)
  · refine seg_ok 1 (?_ : EvI X E_X8_takeDown (13, [some (.inr (.inr (some (8, 0, 0)))), some (.inl x)], [.inl (-1)], M1) _)
    refine ev_rt (r := some (.inl (-1))) rfl (?_)
    have e : opDown S x = (-1, S) := cif_t h9
    exact ⟨rint (by rw [e]), by rw [e]; exact errP hW.1 hS bM1 dM1 (by dsimp only; decide)⟩
  · refine seg_ok 2 (?_ : EvI X E_X8_takeDown (16, [some (.inr (.inr (some (8, 0, 0)))), some (.inl x)], [.inl x, .inr (.inr (some (8, 0, 0)))], M1) _)
    refine ev_clp (v := .inl (bi (upP S x))) (z := z_X8_isUp) (as := [.inr (.inr (some (8, 0, 0))), .inl x]) (rest := []) rfl (c_isUp hWM1) (?_ : EvI X E_X8_takeDown (19, [some (.inr (.inr (some (8, 0, 0)))), some (.inl x)], [.inl (bi (upP S x))], M1) _)
    refine seg_ok 1 (?_ : EvI X E_X8_takeDown (if (bi (upP S x)) = 0 then 22 else 25, [some (.inr (.inr (some (8, 0, 0)))), some (.inl x)], [], M1) _)
    refine ev_ifb (fun h19 => ?_) (fun h19 => ?_)
    · refine seg_ok 1 (?_ : EvI X E_X8_takeDown (24, [some (.inr (.inr (some (8, 0, 0)))), some (.inl x)], [.inl (-2)], M1) _)
      refine ev_rt (r := some (.inl (-2))) rfl (?_)
      have e : opDown S x = (-2, S) := (cif_f (fun z => z h9)).trans (cif_t h19)
      exact ⟨rint (by rw [e]), by rw [e]; exact errP hW.1 hS bM1 dM1 (by dsimp only; decide)⟩
    · have hI2 := Inv_dn hW.2 h9
      refine seg_ok 5 (⟨by omega, ?_⟩ : ((0 : Int) ≤ 10 ∧ (10 : Int) < 589) ∧ EvI X E_X8_takeDown (33, [some (.inr (.inr (some (8, 0, 0)))), some (.inl x)], [.inl (M1 17 0 0 10), .inl 10, .inr (.inr (some (17, 0, 0)))], M1) _)
      rw [show (M1 17 0 0 10) = (S 1 0 5) from sc10 (hWM1.1)]
      refine seg_ok 10 (⟨by omega, ?_⟩ : ((0 : Int) ≤ 10 ∧ (10 : Int) < 589) ∧ EvI X E_X8_takeDown (43, [some (.inr (.inr (some (8, 0, 0)))), some (.inl x)], [.inl 1, .inr (.inr (some (8, 0, 0))), .inr (.inr (some (8, 0, 0)))], (wri M1 17 0 0 10 (andI (S 1 0 5) (xorI (shlI 1 x) (-1))))) _)
      refine ev_clp (v := .inl (ctA (dnS S x) (fun c => (1 : Int) = 0 ∨ isN (dnS S x) c = 1))) (z := z_X8_countedAll) (as := [.inr (.inr (some (8, 0, 0))), .inl 1]) (rest := [.inr (.inr (some (8, 0, 0)))]) rfl (c_countedAll (m := m) (S := dnS S x) ⟨RR_s10 hWM1.1, hI2⟩) (?_ : EvI X E_X8_takeDown (46, [some (.inr (.inr (some (8, 0, 0)))), some (.inl x)], [.inl (ctA (dnS S x) (fun c => (1 : Int) = 0 ∨ isN (dnS S x) c = 1)), .inr (.inr (some (8, 0, 0)))], (wri M1 17 0 0 10 (andI (S 1 0 5) (xorI (shlI 1 x) (-1))))) _)
      refine ev_cl (z := z_X8_acted) (as := [.inr (.inr (some (8, 0, 0))), .inl (ctA (dnS S x) (fun c => (1 : Int) = 0 ∨ isN (dnS S x) c = 1))]) (rest := []) rfl (c_acted (M := (wri M1 17 0 0 10 (andI (S 1 0 5) (xorI (shlI 1 x) (-1))))) (show 0 ≤ M1 8 0 0 4 ∧ M1 8 0 0 4 ≤ 5 from hAM1)) ?_
      intro rr M2 hqM2
      obtain ⟨rfl, kM2⟩ := hqM2
      show EvI X E_X8_takeDown (49, [some (.inr (.inr (some (8, 0, 0)))), some (.inl x)], [.inl (ctA (dnS S x) (fun c => (1 : Int) = 0 ∨ isN (dnS S x) c = 1))], M2) _
      refine ev_rt (r := some (.inl (ctA (dnS S x) (fun c => (1 : Int) = 0 ∨ isN (dnS S x) c = 1)))) rfl (?_)
      have e : opDown S x = (ctA (dnS S x) (fun c => (1 : Int) = 0 ∨ isN (dnS S x) c = 1), dnS S x) := ((cif_f (fun z => z h9)).trans (cif_f (fun z => z h19))).trans (by rw [← ctA_kl hI2]; rfl)
      exact ⟨rint (by rw [e]), by rw [e]; exact actP aM1 bM1 dM1 (F8_of (F17_wri F17_rf)) (RR_s10 hWM1.1) (SHo_eq hS (u4_wri (congrFun (congrFun (congrFun (bM1 17 (by decide)) 0) 0) 4) (by omega)) rfl (fun _ _ _ => Iff.rfl)) kM2⟩
theorem c_upgrade {m : Int} {M : NM} {S : Sl} (hW : RW m M S) (hS : SHo (M 17 0 0) S) (hA : 0 ≤ M 8 0 0 4 ∧ M 8 0 0 4 ≤ 5) (hm : m + 20 ≤ 62000) {x : Int} : HT X z_X8_upgrade [.inr (.inr (some (8, 0, 0))), .inl x] M (fun rr MM => rr = some (.inl (opUpg S x).1) ∧ RR (MM 17 0 0) (opUpg S x).2 ∧ SHo (MM 17 0 0) (opUpg S x).2 ∧ KPT (opUpg S x).1 M MM) := by
  have hs := hW.1.1
  have hi := hW.2.1
  unfold Iv0 at hi
  refine ht_of (e := E_X8_upgrade) rfl (?_ : EvI X E_X8_upgrade (0, [some (.inr (.inr (some (8, 0, 0)))), some (.inl x)], [], M) _)
  refine seg_ok 1 (?_ : EvI X E_X8_upgrade (1, [some (.inr (.inr (some (8, 0, 0)))), some (.inl x)], [.inr (.inr (some (8, 0, 0)))], M) _)
  refine ev_cl (z := z_X8_aside) (as := [.inr (.inr (some (8, 0, 0)))]) (rest := []) rfl c_aside ?_
  intro rr M1 hqM1
  obtain ⟨rfl, aM1, bM1, dM1⟩ := hqM1
  have hWM1 : RW m M1 S := RW_fr (bM1 17 (by decide)) hW
  have hAM1 : 0 ≤ M1 8 0 0 4 ∧ M1 8 0 0 4 ≤ 5 := by rw [dM1 0 0 4 (by decide)]; exact hA
  show EvI X E_X8_upgrade (4, [some (.inr (.inr (some (8, 0, 0)))), some (.inl x)], [], M1) _
  refine seg_ok 2 (?_ : EvI X E_X8_upgrade (6, [some (.inr (.inr (some (8, 0, 0)))), some (.inl x)], [.inl x, .inr (.inr (some (8, 0, 0)))], M1) _)
  refine ev_clp (v := .inl (whN S x)) (z := z_X8_whyNot) (as := [.inr (.inr (some (8, 0, 0))), .inl x]) (rest := []) rfl (c_whyNot hWM1) (?_ : EvI X E_X8_upgrade (9, [some (.inr (.inr (some (8, 0, 0)))), some (.inl x)], [.inl (whN S x)], M1) _)
  refine seg_ok 1 (?_ : EvI X E_X8_upgrade (if (whN S x) = 0 then 18 else 12, [some (.inr (.inr (some (8, 0, 0)))), some (.inl x)], [], M1) _)
  refine ev_if (fun h9 => ?_) (fun h9 => ?_)
  · have h := whN_iff.mp h9
    refine seg_ok 2 (?_ : EvI X E_X8_upgrade (20, [some (.inr (.inr (some (8, 0, 0)))), some (.inl x)], [.inl x, .inr (.inr (some (8, 0, 0)))], M1) _)
    refine ev_clp (v := .inl (upF S (S 6 x 1 / 100) (S 6 x 2) (S 1 0 3).toNat)) (z := z_X8_better) (as := [.inr (.inr (some (8, 0, 0))), .inl x]) (rest := []) rfl (c_better hWM1 (by omega)) (?_ : EvI X E_X8_upgrade (23, [some (.inr (.inr (some (8, 0, 0)))), some (.inl x)], [.inl (upF S (S 6 x 1 / 100) (S 6 x 2) (S 1 0 3).toNat)], M1) _)
    refine seg_ok 2 (?_ : EvI X E_X8_upgrade (if (upF S (S 6 x 1 / 100) (S 6 x 2) (S 1 0 3).toNat) = (-9) then 28 else 33, [some (.inr (.inr (some (8, 0, 0)))), some (.inl x)], [], M1) _)
    refine ev_if (fun h25 => ?_) (fun h25 => ?_)
    · refine seg_ok 2 (?_ : EvI X E_X8_upgrade (42, [some (.inr (.inr (some (8, 0, 0)))), some (.inl x)], [.inl (-2)], M1) _)
      refine ev_rt (r := some (.inl (-2))) rfl (?_)
      have e : opUpg S x = (-2, S) := by
        unfold opUpg
        rw [cif_f (fun z => z h.1), show opChain S x = (0, S) from (cif_f (fun z => z h.2)).trans (cif_t h25), cif_t rfl]
      exact ⟨rint (by rw [e]), by rw [e]; exact errP hW.1 hS bM1 dM1 (by dsimp only; decide)⟩
    · refine seg_ok 3 (?_ : EvI X E_X8_upgrade (36, [some (.inr (.inr (some (8, 0, 0)))), some (.inl x)], [.inl x, .inr (.inr (some (8, 0, 0))), .inr (.inr (some (8, 0, 0)))], M1) _)
      refine ev_cl (z := z_X8_chains) (as := [.inr (.inr (some (8, 0, 0))), .inl x]) (rest := [.inr (.inr (some (8, 0, 0)))]) rfl (c_chains hWM1 hm h.1 h.2) ?_
      intro rr M2 hqM2
      obtain ⟨rfl, rM2, uM2, gM2⟩ := hqM2
      have hAM2 : 0 ≤ M2 8 0 0 4 ∧ M2 8 0 0 4 ≤ 5 := by rw [gM2.2 0 0 4 (by decide)]; exact hAM1
      show EvI X E_X8_upgrade (39, [some (.inr (.inr (some (8, 0, 0)))), some (.inl x)], [.inl ((opChain S x).1), .inr (.inr (some (8, 0, 0)))], M2) _
      refine ev_cl (z := z_X8_acted) (as := [.inr (.inr (some (8, 0, 0))), .inl ((opChain S x).1)]) (rest := []) rfl (c_acted hAM2) ?_
      intro rr M3 hqM3
      obtain ⟨rfl, kM3⟩ := hqM3
      show EvI X E_X8_upgrade (42, [some (.inr (.inr (some (8, 0, 0)))), some (.inl x)], [.inl ((opChain S x).1)], M3) _
      refine ev_rt (r := some (.inl ((opChain S x).1))) rfl (?_)
      have hp := opChain_pos h.2 h25 (by omega)
      have e : opUpg S x = opChain S x := by
        unfold opUpg
        rw [cif_f (fun z => z h.1), cif_f (by omega)]
      exact ⟨rint (by rw [e]), by rw [e]; exact actP aM1 bM1 dM1 gM2 rM2 (sh_chain hS (uM2.trans (congrFun (congrFun (congrFun (bM1 17 (by decide)) 0) 0) 4))) kM3⟩
  · refine seg_ok 2 (?_ : EvI X E_X8_upgrade (14, [some (.inr (.inr (some (8, 0, 0)))), some (.inl x)], [.inl x, .inr (.inr (some (8, 0, 0)))], M1) _)
    refine ev_clp (v := .inl (whN S x)) (z := z_X8_whyNot) (as := [.inr (.inr (some (8, 0, 0))), .inl x]) (rest := []) rfl (c_whyNot hWM1) (?_ : EvI X E_X8_upgrade (17, [some (.inr (.inr (some (8, 0, 0)))), some (.inl x)], [.inl (whN S x)], M1) _)
    refine ev_rt (r := some (.inl (whN S x))) rfl (?_)
    have e : opUpg S x = (whN S x, S) := by
      unfold opUpg
      by_cases q : 0 ≤ x ∧ x < S 5 0 4
      · have q2 : S 6 x 0 ≠ 0 := fun z => h9 (whN_iff.mpr ⟨q, z⟩)
        rw [cif_f (fun z => z q), show opChain S x = (0, S) from cif_t q2, cif_t rfl]
        unfold whN
        rw [cif_f (fun z => z q), cif_t q2]
      · rw [cif_t q]; unfold whN; rw [cif_t q]
    have hn : whN S x < 0 := by
      unfold whN at h9 ⊢
      by_cases q : 0 ≤ x ∧ x < S 5 0 4
      · by_cases q2 : S 6 x 0 = 0
        · exact absurd (by rw [cif_f (fun z => z q), cif_f (fun z => z q2)]) h9
        · rw [cif_f (fun z => z q), cif_t q2]; decide
      · rw [cif_t q]; decide
    exact ⟨rint (by rw [e]), by rw [e]; exact errP hW.1 hS bM1 dM1 hn⟩
set_option maxRecDepth 2280 in
theorem c_closeDoors {m : Int} {M : NM} {S : Sl} (hW : RW m M S) (hS : SHo (M 17 0 0) S) (hA : 0 ≤ M 8 0 0 4 ∧ M 8 0 0 4 ≤ 5) : HT X z_X8_closeDoors [.inr (.inr (some (8, 0, 0)))] M (fun rr MM => rr = some (.inl (opClose S).1) ∧ RR (MM 17 0 0) (opClose S).2 ∧ SHo (MM 17 0 0) (opClose S).2 ∧ KPT (opClose S).1 M MM) := by
  have hs := hW.1.1
  have hi := hW.2.1
  unfold Iv0 at hi
  refine ht_of (e := E_X8_closeDoors) rfl (?_ : EvI X E_X8_closeDoors (0, [some (.inr (.inr (some (8, 0, 0)))), none, none], [], M) _)
  refine seg_ok 1 (?_ : EvI X E_X8_closeDoors (1, [some (.inr (.inr (some (8, 0, 0)))), none, none], [.inr (.inr (some (8, 0, 0)))], M) _)
  refine ev_cl (z := z_X8_aside) (as := [.inr (.inr (some (8, 0, 0)))]) (rest := []) rfl c_aside ?_
  intro rr M1 hqM1
  obtain ⟨rfl, aM1, bM1, dM1⟩ := hqM1
  have hWM1 : RW m M1 S := RW_fr (bM1 17 (by decide)) hW
  have hAM1 : 0 ≤ M1 8 0 0 4 ∧ M1 8 0 0 4 ≤ 5 := by rw [dM1 0 0 4 (by decide)]; exact hA
  show EvI X E_X8_closeDoors (4, [some (.inr (.inr (some (8, 0, 0)))), none, none], [], M1) _
  refine seg_ok 4 (⟨by omega, ?_⟩ : ((0 : Int) ≤ 1 ∧ (1 : Int) < 589) ∧ EvI X E_X8_closeDoors (10, [some (.inr (.inr (some (8, 0, 0)))), none, none], [.inl (M1 17 0 0 1)], M1) _)
  rw [show (M1 17 0 0 1) = (S 5 0 6) from sc1 (hWM1.1)]
  refine seg_ok 2 (?_ : EvI X E_X8_closeDoors (if (S 5 0 6) = 1 then 14 else 17, [some (.inr (.inr (some (8, 0, 0)))), none, none], [], M1) _)
  refine ev_if (fun h11 => ?_) (fun h11 => ?_)
  · refine seg_ok 1 (?_ : EvI X E_X8_closeDoors (16, [some (.inr (.inr (some (8, 0, 0)))), none, none], [.inl (-2)], M1) _)
    refine ev_rt (r := some (.inl (-2))) rfl (?_)
    have e : opClose S = (-2, S) := cif_t (by omega)
    exact ⟨rint (by rw [e]), by rw [e]; exact errP hW.1 hS bM1 dM1 (by dsimp only; decide)⟩
  · have hS0 := Inv_sc hW.2 (s := 6) (v := 1) (Or.inr ⟨rfl, Or.inr rfl⟩)
    refine seg_ok 9 (⟨by omega, ?_⟩ : ((0 : Int) ≤ 1 ∧ (1 : Int) < 589) ∧ EvI X E_X8_closeDoors (28, [some (.inr (.inr (some (8, 0, 0)))), some (.inl 0), some (.inl 0)], [], (wri M1 17 0 0 1 1)) _)
    have L28 : ∀ (m28 : Nat) (n t : Int) (Mk : NM), S 5 0 4 - t < (m28 : Int) → (0 ≤ t) → (t ≤ S 5 0 4) → (n = sm (fun t => cif (S 6 t 0 = 0) (S 6 t 2) 0) t.toNat) → (RR (Mk 17 0 0) (noN (st S 5 0 6 1) t.toNat)) → (F17 M1 Mk) → (Mk 17 0 0 4 = M1 17 0 0 4 + sm (fun t => bi (S 6 t 0 = 0)) t.toNat) → EvI X E_X8_closeDoors (28, [some (.inr (.inr (some (8, 0, 0)))), some (.inl n), some (.inl t)], [], Mk) (fun rr MM => rr = some (.inl (opClose S).1) ∧ RR (MM 17 0 0) (opClose S).2 ∧ SHo (MM 17 0 0) (opClose S).2 ∧ KPT (opClose S).1 M MM) := by
      intro m28
      induction m28 with
      | zero => intro n t Mk hm28 q1 q2 q3 q4 q5 q6; exact absurd hm28 (by omega)
      | succ m28 ih28 =>
        intro n t Mk hm28 q1 q2 q3 q4 q5 q6
        subst q3
        have gb := sm_bndr (f := fun t => cif (S 6 t 0 = 0) (S 6 t 2) 0) (c := 10) (n := t.toNat) (fun k k0 k1 => by
          have hh := HO_r hW.2 (HO_t hW.2 ⟨k0, by omega⟩)
          by_cases q : S 6 k 0 = 0
          · rw [cif_t q]; omega
          · rw [cif_f q]; omega)
        have gv := smb_bnd (fun t => S 6 t 0 = 0) t.toNat
        have gs := smb_bnd (fun t => S 6 t 0 = 3) (S 5 0 4).toNat
        have g4 : (noN (st S 5 0 6 1) t.toNat) 5 0 4 = S 5 0 4 := noN_o _ _ _ _ (by decide) (fun z => by cases z)
        have g : ∀ s, (noN (st S 5 0 6 1) t.toNat) 6 t s = S 6 t s := fun s => noN_o _ _ _ _ (by decide) (fun _ => by omega)
        have gt0 := g 0
        have gt1 := g 1
        have gt2 := g 2
        have s4 : M1 17 0 0 4 = sm (fun t => bi (S 6 t 0 = 3)) (S 5 0 4).toNat := (congrFun (congrFun (congrFun (bM1 17 (by decide)) 0) 0) 4).trans hS
        refine seg_ok 5 (⟨by omega, ?_⟩ : ((0 : Int) ≤ 9 ∧ (9 : Int) < 589) ∧ EvI X E_X8_closeDoors (36, [some (.inr (.inr (some (8, 0, 0)))), some (.inl (sm (fun t => cif (S 6 t 0 = 0) (S 6 t 2) 0) t.toNat)), some (.inl t)], [.inl (Mk 17 0 0 9), .inl t], Mk) _)
        rw [show (Mk 17 0 0 9) = ((noN (st S 5 0 6 1) t.toNat) 5 0 4) from (sc9 (q4)).trans rfl]
        refine seg_ok 1 (?_ : EvI X E_X8_closeDoors (if t < ((noN (st S 5 0 6 1) t.toNat) 5 0 4) then 39 else 80, [some (.inr (.inr (some (8, 0, 0)))), some (.inl (sm (fun t => cif (S 6 t 0 = 0) (S 6 t 2) 0) t.toNat)), some (.inl t)], [], Mk) _)
        refine ev_if (fun h36 => ?_) (fun h36 => ?_)
        · have hE := Inv_no hS0 t.toNat (by show (t.toNat : Int) ≤ S 5 0 4; omega)
          have hh := HO_r hE (HO_t hE ⟨q1, by omega⟩)
          refine seg_ok 3 (?_ : EvI X E_X8_closeDoors (42, [some (.inr (.inr (some (8, 0, 0)))), some (.inl (sm (fun t => cif (S 6 t 0 = 0) (S 6 t 2) 0) t.toNat)), some (.inl t)], [.inl 0, .inl t, .inr (.inr (some (8, 0, 0)))], Mk) _)
          refine ev_clp (v := .inl ((noN (st S 5 0 6 1) t.toNat) 6 t 0)) (z := z_X8_ofTicket) (as := [.inr (.inr (some (8, 0, 0))), .inl t, .inl 0]) (rest := []) rfl (c_ofTicket q4 (by omega) (by omega)) (?_ : EvI X E_X8_closeDoors (45, [some (.inr (.inr (some (8, 0, 0)))), some (.inl (sm (fun t => cif (S 6 t 0 = 0) (S 6 t 2) 0) t.toNat)), some (.inl t)], [.inl ((noN (st S 5 0 6 1) t.toNat) 6 t 0)], Mk) _)
          refine seg_ok 1 (?_ : EvI X E_X8_closeDoors (if ((noN (st S 5 0 6 1) t.toNat) 6 t 0) = 0 then 48 else 74, [some (.inr (.inr (some (8, 0, 0)))), some (.inl (sm (fun t => cif (S 6 t 0 = 0) (S 6 t 2) 0) t.toNat)), some (.inl t)], [], Mk) _)
          refine ev_if (fun h45 => ?_) (fun h45 => ?_)
          · refine seg_ok 4 (?_ : EvI X E_X8_closeDoors (52, [some (.inr (.inr (some (8, 0, 0)))), some (.inl (sm (fun t => cif (S 6 t 0 = 0) (S 6 t 2) 0) t.toNat)), some (.inl t)], [.inl 0, .inl 3, .inl t, .inr (.inr (some (8, 0, 0)))], Mk) _)
            refine ev_cl (z := z_X8_ends) (as := [.inr (.inr (some (8, 0, 0))), .inl t, .inl 3, .inl 0]) (rest := []) rfl (c_ends ⟨q4, hE⟩ ⟨q1, by omega⟩ (by omega)) ?_
            intro rr M2 hqM2
            obtain ⟨rfl, rM2, uM2, gM2⟩ := hqM2
            show EvI X E_X8_closeDoors (55, [some (.inr (.inr (some (8, 0, 0)))), some (.inl (sm (fun t => cif (S 6 t 0 = 0) (S 6 t 2) 0) t.toNat)), some (.inl t)], [], M2) _
            refine seg_ok 4 (?_ : EvI X E_X8_closeDoors (59, [some (.inr (.inr (some (8, 0, 0)))), some (.inl (sm (fun t => cif (S 6 t 0 = 0) (S 6 t 2) 0) t.toNat)), some (.inl t)], [.inl 2, .inl t, .inr (.inr (some (8, 0, 0))), .inl (sm (fun t => cif (S 6 t 0 = 0) (S 6 t 2) 0) t.toNat)], M2) _)
            refine ev_clp (v := .inl ((bec (st (noN (st S 5 0 6 1) t.toNat) 6 t 0 3) ((noN (st S 5 0 6 1) t.toNat) 6 t 1) ((noN (st S 5 0 6 1) t.toNat) 6 t 2) 0) 6 t 2)) (z := z_X8_ofTicket) (as := [.inr (.inr (some (8, 0, 0))), .inl t, .inl 2]) (rest := [.inl (sm (fun t => cif (S 6 t 0 = 0) (S 6 t 2) 0) t.toNat)]) rfl (c_ofTicket rM2 (by omega) (by omega)) (?_ : EvI X E_X8_closeDoors (62, [some (.inr (.inr (some (8, 0, 0)))), some (.inl (sm (fun t => cif (S 6 t 0 = 0) (S 6 t 2) 0) t.toNat)), some (.inl t)], [.inl ((bec (st (noN (st S 5 0 6 1) t.toNat) 6 t 0 3) ((noN (st S 5 0 6 1) t.toNat) 6 t 1) ((noN (st S 5 0 6 1) t.toNat) 6 t 2) 0) 6 t 2), .inl (sm (fun t => cif (S 6 t 0 = 0) (S 6 t 2) 0) t.toNat)], M2) _)
            rw [show ((bec (st (noN (st S 5 0 6 1) t.toNat) 6 t 0 3) ((noN (st S 5 0 6 1) t.toNat) 6 t 1) ((noN (st S 5 0 6 1) t.toNat) 6 t 2) 0) 6 t 2) = ((noN (st S 5 0 6 1) t.toNat) 6 t 2) from st_nes (by decide)]
            refine seg_ok 12 (⟨by omega, by omega, by omega, by omega, by omega, ?_⟩ : ((-2147483648 : Int) ≤ ((sm (fun t => cif (S 6 t 0 = 0) (S 6 t 2) 0) t.toNat) + ((noN (st S 5 0 6 1) t.toNat) 6 t 2)) ∧ ((sm (fun t => cif (S 6 t 0 = 0) (S 6 t 2) 0) t.toNat) + ((noN (st S 5 0 6 1) t.toNat) 6 t 2)) < 2147483648) ∧ ((0 : Int) ≤ 4 ∧ (4 : Int) < 589) ∧ ((-2147483648 : Int) ≤ ((M2 17 0 0 4) + 1) ∧ ((M2 17 0 0 4) + 1) < 2147483648) ∧ ((0 : Int) ≤ 4 ∧ (4 : Int) < 589) ∧ ((-2147483648 : Int) ≤ (t + 1) ∧ (t + 1) < 2147483648) ∧ EvI X E_X8_closeDoors (28, [some (.inr (.inr (some (8, 0, 0)))), some (.inl ((sm (fun t => cif (S 6 t 0 = 0) (S 6 t 2) 0) t.toNat) + ((noN (st S 5 0 6 1) t.toNat) 6 t 2))), some (.inl (t + 1))], [], (wri M2 17 0 0 4 ((M2 17 0 0 4) + 1))) _)
            refine ih28 ((sm (fun t => cif (S 6 t 0 = 0) (S 6 t 2) 0) t.toNat) + ((noN (st S 5 0 6 1) t.toNat) 6 t 2)) (t + 1) (wri M2 17 0 0 4 ((M2 17 0 0 4) + 1)) (by omega) (by omega) (by omega) (by rw [sm_step q1]; exact acc0 (by rw [g 2]; exact (cif_t ((g 0).symm.trans h45)).symm)) (RR_4 (RR_eq rM2 (by rw [noN_step q1]; exact (cif_t (p := S 6 t 0 = 0) ((g 0).symm.trans h45)).trans (by rw [g 1, g 2]; rfl)))) (F17_wri (F17_tr q5 gM2)) (wri_eq.trans (by rw [uM2, q6, sm_step q1, bi_t ((g 0).symm.trans h45)]; omega))
          · refine seg_ok 2 (⟨by omega, ?_⟩ : ((-2147483648 : Int) ≤ (t + 1) ∧ (t + 1) < 2147483648) ∧ EvI X E_X8_closeDoors (28, [some (.inr (.inr (some (8, 0, 0)))), some (.inl (sm (fun t => cif (S 6 t 0 = 0) (S 6 t 2) 0) t.toNat)), some (.inl (t + 1))], [], Mk) _)
            refine ih28 (sm (fun t => cif (S 6 t 0 = 0) (S 6 t 2) 0) t.toNat) (t + 1) Mk (by omega) (by omega) (by omega) (by rw [sm_step q1]; exact (Int.add_zero _).symm.trans (acc0 (cif_f (fun z => h45 ((g 0).trans z))).symm)) (RR_eq q4 (by rw [noN_step q1]; exact cif_f (p := S 6 t 0 = 0) (fun z => h45 ((g 0).trans z)))) q5 (by rw [q6, sm_step q1, bi_f (fun z => h45 ((g 0).trans z)), Int.add_zero])
        · refine seg_ok 2 (?_ : EvI X E_X8_closeDoors (82, [some (.inr (.inr (some (8, 0, 0)))), some (.inl (sm (fun t => cif (S 6 t 0 = 0) (S 6 t 2) 0) t.toNat)), some (.inl t)], [.inl (sm (fun t => cif (S 6 t 0 = 0) (S 6 t 2) 0) t.toNat), .inr (.inr (some (8, 0, 0)))], Mk) _)
          refine ev_cl (z := z_X8_acted) (as := [.inr (.inr (some (8, 0, 0))), .inl (sm (fun t => cif (S 6 t 0 = 0) (S 6 t 2) 0) t.toNat)]) (rest := []) rfl (c_acted (by rw [q5 8 (by decide)]; exact hAM1)) ?_
          intro rr M3 hqM3
          obtain ⟨rfl, kM3⟩ := hqM3
          show EvI X E_X8_closeDoors (85, [some (.inr (.inr (some (8, 0, 0)))), some (.inl (sm (fun t => cif (S 6 t 0 = 0) (S 6 t 2) 0) t.toNat)), some (.inl t)], [.inl (sm (fun t => cif (S 6 t 0 = 0) (S 6 t 2) 0) t.toNat)], M3) _
          refine ev_rt (r := some (.inl (sm (fun t => cif (S 6 t 0 = 0) (S 6 t 2) 0) t.toNat))) rfl (?_)
          obtain rfl : t = S 5 0 4 := by omega
          have e : opClose S = (sm (fun t => cif (S 6 t 0 = 0) (S 6 t 2) 0) (S 5 0 4).toNat, noN (st S 5 0 6 1) (S 5 0 4).toNat) := cif_f (by omega)
          exact ⟨rint (by rw [e]), by rw [e]; exact actP aM1 bM1 dM1 (F8_of q5) q4 (sh_close (by omega) hS (q6.trans (by rw [(congrFun (congrFun (congrFun (bM1 17 (by decide)) 0) 0) 4)]))) kM3⟩
    refine L28 ((S 5 0 4 - 0) + 1 : Int).toNat 0 0 (wri M1 17 0 0 1 1) (by omega) (by omega) (by omega) rfl (RR_s1 hWM1.1) (F17_wri F17_rf) ((u4_wri (M := M1) (M0 := M1) rfl (by omega)).trans (Int.add_zero _).symm)
end
