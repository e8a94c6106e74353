/-! 34: stadiums that are alike -/
section
variable {m : Int} {S S' : Sl}
theorem SE_b (h : SE S S') {b w : Int} (hb : 0 ≤ b ∧ b < 6) (hw : 0 ≤ w ∧ w < 3) : S' 0 b w = S 0 b w := h.1.1 b w hb.1 hb.2 hw.1 hw.2
theorem SE_isCh (hI : Inv m S) (h : SE S S') (c : Int) : isCh S' c ↔ isCh S c := by
  have hi := hI.1.2.1
  have e := h.1.2.2.2.1
  unfold isCh
  rw [e]
  by_cases q : 0 ≤ c ∧ c / 100 < S 1 0 3
  · rw [SE_b h (by omega) (by decide), SE_b h (by omega) (by decide)]
  · exact ⟨fun z => absurd ⟨z.1, z.2.1⟩ q, fun z => absurd ⟨z.1, z.2.1⟩ q⟩
theorem SE_HO (hI : Inv m S) (h : SE S S') {f n : Int} (q : HO S f n) : HO S' f n := by
  have hi := hI.1.2.1
  obtain ⟨q0, q1, q2, q3, q4, q5⟩ := q
  unfold HO
  rw [h.1.2.2.2.1, SE_b h (by omega) (by decide), SE_b h (by omega) (by decide)]
  exact ⟨q0, q1, q2, q3, q4, q5⟩
theorem SE_kl (h : SE S S') {c : Int} (hc : 0 ≤ c ∧ c < 600) : kl S' c ↔ kl S c := by
  unfold kl
  rw [h.1.2.2.1 c hc.1 hc.2, h.1.2.2.2.2.2]
theorem Inv_SE (hI : Inv m S) (h : SE S S') : Inv m S' := by
  have hI2 := hI
  obtain ⟨⟨a1, a2, a3, a4, a5, a6, a7, a8, a9, a10, a11⟩, hB, hC, hH, hT, hO3, hO6, hN⟩ := hI2
  have e13 := h.1.2.2.2.1
  have e14 := h.1.2.2.2.2.1
  have e15 := h.1.2.2.2.2.2
  have s5 := h.2.2.2
  have e3 := s5 3 (by decide) (by decide)
  have e4 := s5 4 (by decide) (by decide)
  have e5 := s5 5 (by decide) (by decide)
  have e6 := s5 6 (by decide) (by decide)
  have e7 := s5 7 (by decide) (by decide)
  have e8 := s5 8 (by decide) (by decide)
  have e9 := s5 9 (by decide) (by decide)
  have r3 : ∀ x w, 0 ≤ x → x < S 5 0 3 → 0 ≤ w → w < 5 → S' 3 x w = S 3 x w := fun x w x0 x1 w0 w1 => h.2.1 x w x0 (by omega) w0 w1
  have r6 : ∀ x w, 0 ≤ x → x < S 5 0 4 → 0 ≤ w → w < 5 → S' 6 x w = S 6 x w := fun x w x0 x1 w0 w1 => h.2.2.1 x w x0 (by omega) w0 w1
  have r13 : ∀ {f n c : Int}, HO S f n → f ≤ c → c < f + n → S' 13 0 c = S 13 0 c := fun q c0 c1 => by
    have p := isCh_r hI (HO_ch hI q c0 c1)
    exact h.1.2.1 _ p.1 p.2.1
  refine ⟨⟨a1, by rw [e13]; exact a2, by rw [e14]; exact a3, by rw [e15]; exact a4, by rw [e3]; exact a5, by rw [e4]; exact a6, by rw [e5]; exact a7, by rw [e6]; exact a8, by rw [e7]; exact a9, by rw [e8]; exact a10, by rw [e9]; exact a11⟩, ?_, ?_, ?_, ?_, ?_, ?_, ?_⟩
  · intro b b0 b1
    rw [e13] at b1
    rw [SE_b h (by omega) (by decide), SE_b h (by omega) (by decide), SE_b h (by omega) (by decide)]
    exact hB b b0 b1
  · intro c c0 c1
    rw [h.1.2.1 c c0 c1, h.1.2.2.1 c c0 c1, SE_isCh hI h, SE_kl h ⟨c0, c1⟩]
    exact hC c c0 c1
  · intro x x0 x1
    rw [e3] at x1
    rw [r3 x 0 x0 x1 (by decide) (by decide), r3 x 1 x0 x1 (by decide) (by decide), r3 x 2 x0 x1 (by decide) (by decide), r3 x 3 x0 x1 (by decide) (by decide)]
    obtain ⟨p, q⟩ := hH x x0 x1
    exact ⟨SE_HO hI h p, q⟩
  · intro x x0 x1
    rw [e4] at x1
    rw [r6 x 0 x0 x1 (by decide) (by decide), r6 x 1 x0 x1 (by decide) (by decide), r6 x 2 x0 x1 (by decide) (by decide), r6 x 3 x0 x1 (by decide) (by decide), r6 x 4 x0 x1 (by decide) (by decide)]
    obtain ⟨p, q⟩ := hT x x0 x1
    exact ⟨SE_HO hI h p, q⟩
  · rw [e3]
    refine IvO_keep hO3 (fun x x0 x1 x2 => ?_)
    rw [r3 x 0 x0 x1 (by decide) (by decide)] at x2
    exact ⟨x1, x2, r3 x 1 x0 x1 (by decide) (by decide), r3 x 2 x0 x1 (by decide) (by decide), fun c c0 c1 => r13 (HO_h hI ⟨x0, x1⟩) c0 c1⟩
  · rw [e4]
    refine IvO_keep hO6 (fun x x0 x1 x2 => ?_)
    rw [r6 x 0 x0 x1 (by decide) (by decide)] at x2
    exact ⟨x1, x2, r6 x 1 x0 x1 (by decide) (by decide), r6 x 2 x0 x1 (by decide) (by decide), fun c c0 c1 => r13 (HO_t hI ⟨x0, x1⟩) c0 c1⟩
  · rw [e3, e4, ← hN]
    exact sm_congr (fun k k0 k1 => by rw [r3 k 0 k0 (by omega) (by decide) (by decide)])
theorem RR_SE {a : Int → Int} (hR : RR a S) (h : SE S S') : RR a S' := by
  obtain ⟨⟨h0, h1, h2, h3, h4, h5, h6, h7, h8, h9, h10⟩, hb, hc, hh, ht⟩ := hR
  have s5 := h.2.2.2
  refine ⟨⟨by rw [s5 5 (by decide) (by decide)]; exact h0, by rw [s5 6 (by decide) (by decide)]; exact h1, by rw [s5 7 (by decide) (by decide)]; exact h2, by rw [s5 8 (by decide) (by decide)]; exact h3, h4, by rw [s5 9 (by decide) (by decide)]; exact h5, by rw [h.1.2.2.2.1]; exact h6, by rw [h.1.2.2.2.2.1]; exact h7, by rw [s5 3 (by decide) (by decide)]; exact h8, by rw [s5 4 (by decide) (by decide)]; exact h9, by rw [h.1.2.2.2.2.2]; exact h10⟩, fun b w b0 b1 w0 w1 => ?_, fun c c0 c1 c2 => ?_, fun b w b0 b1 w0 w1 => ?_, fun b w b0 b1 w0 w1 => ?_⟩
  · rw [h.1.1 b w b0 b1 w0 w1]; exact hb b w b0 b1 w0 w1
  · rw [h.1.2.1 c c0 c1, h.1.2.2.1 c c0 c1]; exact hc c c0 c1 c2
  · rw [h.2.1 b w b0 b1 w0 w1]; exact hh b w b0 b1 w0 w1
  · rw [h.2.2.1 b w b0 b1 w0 w1]; exact ht b w b0 b1 w0 w1
theorem SHo_SE {a : Int → Int} (hI : Inv m S) (hs : SHo a S) (h : SE S S') : SHo a S' := by
  have hi := hI.1.2.2.2.2.2.1
  have e4 := h.2.2.2 4 (by decide) (by decide)
  exact SHo_eq hs rfl e4 (fun t t0 t1 => by rw [h.2.2.1 t 0 t0 (by omega) (by decide) (by decide)])
theorem SE_rf : SE S S := ⟨⟨fun _ _ _ _ _ _ => rfl, fun _ _ _ => rfl, fun _ _ _ => rfl, rfl, rfl, rfl⟩, fun _ _ _ _ _ _ => rfl, fun _ _ _ _ _ _ => rfl, fun _ _ _ => rfl⟩
theorem SE_tr {S'' : Sl} (h : SE S S') (k : SE S' S'') : SE S S'' :=
  ⟨⟨fun x w a b c d => (k.1.1 x w a b c d).trans (h.1.1 x w a b c d), fun x a b => (k.1.2.1 x a b).trans (h.1.2.1 x a b), fun x a b => (k.1.2.2.1 x a b).trans (h.1.2.2.1 x a b), k.1.2.2.2.1.trans h.1.2.2.2.1, k.1.2.2.2.2.1.trans h.1.2.2.2.2.1, k.1.2.2.2.2.2.trans h.1.2.2.2.2.2⟩, fun x w a b c d => (k.2.1 x w a b c d).trans (h.2.1 x w a b c d), fun x w a b c d => (k.2.2.1 x w a b c d).trans (h.2.2.1 x w a b c d), fun x a b => (k.2.2.2 x a b).trans (h.2.2.2 x a b)⟩
theorem SE_rk (hI : Inv m S) (h : SE S S') {b : Int} (hb : 0 ≤ b ∧ b < 6) : rk S' b = rk S b := by
  have hi := hI.1.2.1
  unfold rk
  rw [h.1.2.2.2.1, SE_b h hb (by decide)]
  exact sm_congr (fun k k0 k1 => by rw [SE_b h (by omega) (by decide)])
theorem SE_opn (hI : Inv m S) (h : SE S S') {b r : Int} (hb : 0 ≤ b ∧ b < 6) (hr : 0 ≤ r ∧ r < 6) : opn S' (100 * b + 10 * r) = opn S (100 * b + 10 * r) := by
  funext c
  by_cases q : 0 ≤ c ∧ c ≤ 9
  · unfold opn
    rw [SE_isCh hI h, SE_kl h (by omega), h.1.2.1 _ (by omega) (by omega)]
  · exact propext ⟨fun z => absurd z.1 q, fun z => absurd z.1 q⟩
theorem SE_pl (hI : Inv m S) (h : SE S S') {b n : Int} (hb : 0 ≤ b ∧ b < S 1 0 3) : pl S' b n = pl S b n := by
  have hi := hI.1.2.1
  have q := hI.2.1 b hb.1 hb.2
  have key : ∀ k : Nat, (k : Int) ≤ 6 → plR S' b n 3 k = plR S b n 3 k := by
    intro k
    induction k with
    | zero => intro _; rfl
    | succ k ih =>
      intro hk
      rw [plR, plR, ih (by omega), SE_b h (by omega) (by decide), plC_cg (SE_opn hI h (by omega) (by omega))]
  unfold pl
  rw [SE_b h (by omega) (by decide), key _ (by omega)]
theorem SE_upF (hI : Inv m S) (h : SE S S') {f n : Int} (hf : 0 ≤ f ∧ f < 6) : ∀ k : Nat, (k : Int) ≤ S 1 0 3 → upF S' f n k = upF S f n k := by
  have hi := hI.1.2.1
  intro k
  induction k with
  | zero => intro _; rfl
  | succ k ih =>
    intro hk
    have e := upF_r S f n k
    rw [upF, upF, ih (by omega), SE_rk hI h hf, SE_rk hI h (b := (k : Int)) (by omega), SE_pl hI h (b := (k : Int)) (by omega)]
    by_cases z : upF S f n k = -9
    · rw [show (upF S f n k = -9 ∨ rk S' (upF S f n k) < rk S k) = True from propext ⟨fun _ => True.intro, fun _ => Or.inl z⟩, show (upF S f n k = -9 ∨ rk S (upF S f n k) < rk S k) = True from propext ⟨fun _ => True.intro, fun _ => Or.inl z⟩]
    · rw [SE_rk hI h (b := upF S f n k) (by omega)]
theorem SE_nm (hI : Inv m S) (h : SE S S') {b : Int} (hb : 0 ≤ b ∧ b < S 1 0 3) : nm S' b = nm S b := by
  have hi := hI.1.2.1
  have hT := hI.1.2.2.2.2.2.1
  unfold nm
  rw [h.2.2.2 4 (by decide) (by decide)]
  refine ff_cg _ _ (fun t t0 t1 => ?_)
  have hO := HO_t hI (t := t) ⟨t0, by omega⟩
  have hf := hO.1
  have hf2 := hO.2.2.2.1
  rw [h.2.2.1 t 0 t0 (by omega) (by decide) (by decide), h.2.2.1 t 1 t0 (by omega) (by decide) (by decide), h.2.2.1 t 2 t0 (by omega) (by decide) (by decide), SE_rk hI h (b := S 6 t 1 / 100) (by omega), SE_rk hI h (b := b) (by omega), SE_pl hI h hb]
theorem SE_mv (hI : Inv m S) (h : SE S S') {t b : Int} (ht : 0 ≤ t ∧ t < S 5 0 4) (hb : 0 ≤ b ∧ b < S 1 0 3) : SE (mvS S t b) (mvS S' t b) := by
  have hT := hI.1.2.2.2.2.2.1
  have e1 := h.2.2.1 t 1 ht.1 (by omega) (by decide) (by decide)
  have e2 := h.2.2.1 t 2 ht.1 (by omega) (by decide) (by decide)
  have e4 := h.2.2.1 t 4 ht.1 (by omega) (by decide) (by decide)
  have e9 := h.2.2.2 9 (by decide) (by decide)
  have ep := SE_pl hI h (n := S 6 t 2) hb
  refine ⟨⟨fun x w a b c d => h.1.1 x w a b c d, fun c c0 c1 => ?_, fun c c0 c1 => h.1.2.2.1 c c0 c1, h.1.2.2.2.1, h.1.2.2.2.2.1, h.1.2.2.2.2.2⟩, fun x w a b c d => h.2.1 x w a b c d, fun x w a b' c d => ?_, fun s s0 s1 => ?_⟩
  · show bec (bec S' (S' 6 t 1) (S' 6 t 2) 0) (pl S' b (S' 6 t 2)) (S' 6 t 2) 2 13 0 c = bec (bec S (S 6 t 1) (S 6 t 2) 0) (pl S b (S 6 t 2)) (S 6 t 2) 2 13 0 c
    rw [e1, e2, ep]
    by_cases z : pl S b (S 6 t 2) ≤ c ∧ c < pl S b (S 6 t 2) + S 6 t 2
    · rw [bec_in z.1 z.2, bec_in z.1 z.2]
    · rw [bec_out z, bec_out z]
      by_cases y : S 6 t 1 ≤ c ∧ c < S 6 t 1 + S 6 t 2
      · rw [bec_in y.1 y.2, bec_in y.1 y.2]
      · rw [bec_out y, bec_out y]; exact h.1.2.1 c c0 c1
  · show st (st S' 6 t 1 (pl S' b (S' 6 t 2))) 6 t 4 (S' 6 t 4 + 1) 6 x w = st (st S 6 t 1 (pl S b (S 6 t 2))) 6 t 4 (S 6 t 4 + 1) 6 x w
    rw [e2, ep, e4]
    by_cases z : x = t ∧ w = 4
    · obtain ⟨rfl, rfl⟩ := z; rw [st_eq, st_eq]
    · rw [show st (st S' 6 t 1 (pl S b (S 6 t 2))) 6 t 4 (S 6 t 4 + 1) 6 x w = st S' 6 t 1 (pl S b (S 6 t 2)) 6 x w from if_neg (fun y => z y.2), show st (st S 6 t 1 (pl S b (S 6 t 2))) 6 t 4 (S 6 t 4 + 1) 6 x w = st S 6 t 1 (pl S b (S 6 t 2)) 6 x w from if_neg (fun y => z y.2)]
      by_cases y : x = t ∧ w = 1
      · obtain ⟨rfl, rfl⟩ := y; rw [st_eq, st_eq]
      · rw [show st S' 6 t 1 (pl S b (S 6 t 2)) 6 x w = S' 6 x w from if_neg (fun u => y u.2), show st S 6 t 1 (pl S b (S 6 t 2)) 6 x w = S 6 x w from if_neg (fun u => y u.2)]
        exact h.2.2.1 x w a b' c d
  · show st _ 5 0 9 (S' 5 0 9 + 1) 5 0 s = st _ 5 0 9 (S 5 0 9 + 1) 5 0 s
    by_cases z : s = 9
    · subst z; rw [st_eq, st_eq, e9]
    · rw [st_nes z, st_nes z]; exact h.2.2.2 s s0 s1
end
theorem SE_chn : ∀ (k : Nat) {m : Int} {S S' : Sl} {b t : Int}, Inv m S → m + k ≤ 62000 → SE S S' → (t = -9 ∨ Mv S b t) → (chn S' b t k).1 = (chn S b t k).1 := by
  intro k
  induction k with
  | zero => intro m S S' b t _ _ _ _; rfl
  | succ k ih =>
    intro m S S' b t hI hm h hM
    rw [chn, chn]
    by_cases z : t = -9
    · rw [cif_t z, cif_t z]
    · rw [cif_f z, cif_f z]
      have hMv := hM.resolve_left z
      have hT := hI.1.2.2.2.2.2.1
      have hO := HO_t hI hMv.1
      have hf := hO.1
      have hf2 := hO.2.2.2.1
      have ht1 := hMv.1
      have e1 := h.2.2.1 t 1 ht1.1 (by omega) (by decide) (by decide)
      have hI2 := Inv_move hI (by omega) hMv
      have hS := SE_mv hI h hMv.1 hMv.2.2.1
      have hb : 0 ≤ S 6 t 1 / 100 ∧ S 6 t 1 / 100 < mvS S t b 1 0 3 := ⟨by omega, hf2⟩
      show (chn (mvS S' t b) (S' 6 t 1 / 100) (nm (mvS S' t b) (S' 6 t 1 / 100)) k).1 + 1 = (chn (mvS S t b) (S 6 t 1 / 100) (nm (mvS S t b) (S 6 t 1 / 100)) k).1 + 1
      rw [e1, SE_nm hI2 hS hb, ih hI2 (by omega) hS (nm_Mv (by have := hI2.1.2.2.2.2.2.1; omega) hb)]
theorem SE_chain {m : Int} {S S' : Sl} (hI : Inv m S) (hm : m + 20 ≤ 62000) (h : SE S S') {t : Int} (ht : 0 ≤ t ∧ t < S 5 0 4) : (opChain S' t).1 = (opChain S t).1 := by
  have hT := hI.1.2.2.2.2.2.1
  have hi := hI.1.2.1
  have hO := HO_t hI ht
  have hf := hO.1
  have hf2 := hO.2.2.2.1
  unfold opChain
  rw [h.2.2.1 t 0 ht.1 (by omega) (by decide) (by decide), h.2.2.1 t 1 ht.1 (by omega) (by decide) (by decide), h.2.2.1 t 2 ht.1 (by omega) (by decide) (by decide), h.1.2.2.2.1, SE_upF hI h (by omega) _ (by omega)]
  by_cases z : S 6 t 0 ≠ 0
  · rw [cif_t z, cif_t z]
  · rw [cif_f z, cif_f z]
    by_cases y : upF S (S 6 t 1 / 100) (S 6 t 2) (S 1 0 3).toNat = -9
    · rw [cif_t y, cif_t y]
    · rw [cif_f y, cif_f y]
      exact SE_chn 20 hI hm h (Or.inr ((upF_Mv hI ht (Classical.not_not.mp z)).resolve_left y))
