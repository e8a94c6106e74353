/-! 50: the world of the law: class and reference side by side -/
def Hst (m : Int) (a : Int → Int) (S : Sl) : Prop := Inv m S ∧ RR a S ∧ SHo a S
def Whi (m : Int) (M : NM) : Prop := (0 ≤ M 2 0 0 1 ∧ M 2 0 0 1 ≤ 5) ∧ (0 ≤ M 2 0 0 2 ∧ M 2 0 0 2 ≤ 5) ∧ M 8 0 0 4 = M 2 0 0 2 ∧ ∀ i, 0 ≤ i → i < M 2 0 0 2 → Hst m (fun k => M 19 0 0 (589 * i + k)) (sl M (2 + (M 2 0 0 1 + i) % 6))
def Wtx (M : NM) : Prop := (0 ≤ M 4 0 0 2 ∧ M 4 0 0 2 ≤ 120) ∧ M 8 0 0 6 = M 4 0 0 2 ∧ ∀ k, 0 ≤ k → k < M 4 0 0 2 → M 20 0 0 k = M 15 0 0 k
def Wld (m : Int) (M : NM) : Prop := Hst m (M 17 0 0) (sl M 0) ∧ Whi m M ∧ Wtx M
def KHi (v : Int) (M MM : NM) : Prop := (∀ K, ¬ stK K → K ≠ 2 → K ≠ 4 → K ≠ 16 → MM K = M K) ∧ (∀ K j i s, stK K → j ≠ 0 → j ≠ 2 + (M 2 0 0 1 + M 2 0 0 2) % 6 → MM K j i s = M K j i s) ∧ SE (sl M 0) (sl MM (2 + (M 2 0 0 1 + M 2 0 0 2) % 6)) ∧ (v < 0 → MM 2 0 0 1 = M 2 0 0 1 ∧ MM 2 0 0 2 = M 2 0 0 2) ∧ (0 ≤ v → (M 2 0 0 2 < 5 → MM 2 0 0 1 = M 2 0 0 1 ∧ MM 2 0 0 2 = M 2 0 0 2 + 1) ∧ (5 ≤ M 2 0 0 2 → MM 2 0 0 1 = (M 2 0 0 1 + 1) % 6 ∧ MM 2 0 0 2 = M 2 0 0 2))
def KTi (v : Int) (M MM : NM) : Prop := (0 ≤ v → HK (M 17 0 0) M MM) ∧ (v < 0 → MM 8 0 0 4 = M 8 0 0 4 ∧ MM 19 = M 19) ∧ Fo (fun K => K = 8 ∨ K = 17 ∨ K = 18 ∨ K = 19 ∨ K = 21) M MM
theorem KHi_C {v : Int} {M MM : NM} (h : KPC v M MM) : KHi v M MM := ⟨fun K a b _ _ => h.1 K a b, fun K j i s _ a b => congrFun (congrFun (congrFun (h.2.1 j a b) K) i) s, h.2.2.1, h.2.2.2.1, h.2.2.2.2⟩
theorem KHi_P {v : Int} {M MM : NM} (h : KPP v M MM) : KHi v M MM := ⟨h.1, h.2.2.2.1, h.2.2.2.2.1, h.2.2.2.2.2.1, h.2.2.2.2.2.2⟩
theorem KTi_T {v : Int} {M MM : NM} (h : KPT v M MM) : KTi v M MM := ⟨h.1, h.2.1, fun K q => h.2.2.1 K (fun z => q (z.elim Or.inl (fun y => Or.inr (y.elim Or.inl (fun x => Or.inr (x.elim Or.inl (fun w => Or.inr (Or.inl w))))))))⟩
theorem KTi_R {v : Int} {M MM : NM} (h : KPR v M MM) : KTi v M MM := ⟨fun z => (h.1 z).1, fun z => ⟨(h.2.1 z).1, (h.2.1 z).2.1⟩, h.2.2⟩
theorem Hst_up {m m2 : Int} {a : Int → Int} {S : Sl} (h : Hst m a S) (h1 : m ≤ m2) (h2 : m2 ≤ 62000) : Hst m2 a S := ⟨Inv_up1 h.1 h1 h2, h.2.1, h.2.2⟩
theorem Hst_SE {m : Int} {a : Int → Int} {S S2 : Sl} (h : Hst m a S) (e : SE S S2) : Hst m a S2 := ⟨Inv_SE h.1 e, RR_SE h.2.1 e, SHo_SE h.1 h.2.2 e⟩
theorem Hst_cg {m : Int} {a a2 : Int → Int} {S : Sl} (h : Hst m a S) (e : ∀ k, 0 ≤ k → k < 589 → a2 k = a k) : Hst m a2 S := by
  refine ⟨h.1, RR_cg h.2.1 e, ?_⟩
  have h3 := h.2.2
  unfold SHo at *
  rw [e 4 (by decide) (by decide), h3]
theorem stK_2 : ¬ stK 2 := by unfold stK; omega
theorem stK_4 : ¬ stK 4 := by unfold stK; omega
theorem stK_8 : ¬ stK 8 := by unfold stK; omega
theorem stK_15 : ¬ stK 15 := by unfold stK; omega
theorem stK_17 : ¬ stK 17 := by unfold stK; omega
theorem stK_19 : ¬ stK 19 := by unfold stK; omega
theorem stK_20 : ¬ stK 20 := by unfold stK; omega
theorem SE_cell {S S2 : Sl} (e : ∀ K i s, stK K → S2 K i s = S K i s) : SE S S2 := SE_cg SE_rf e
theorem hist_step {m v : Int} {M M1 M2 : NM} (hW : Whi m M) (hS : Hst m (M 17 0 0) (sl M 0)) (ka : KHi v M M1) (kb : KTi v M1 M2) : Whi m M2 := by
  obtain ⟨ho, hz, h8, hh⟩ := hW
  obtain ⟨a1, a2, a3, a4, a5⟩ := ka
  obtain ⟨b1, b2, b3⟩ := kb
  have e17 : M1 17 = M 17 := a1 17 stK_17 (by decide) (by decide) (by decide)
  have e19 : M1 19 = M 19 := a1 19 stK_19 (by decide) (by decide) (by decide)
  have e8 : M1 8 = M 8 := a1 8 stK_8 (by decide) (by decide) (by decide)
  have eS : ∀ K, stK K → M2 K = M1 K := fun K q => b3 K (by unfold stK at q; omega)
  have e2 : M2 2 = M1 2 := b3 2 (by decide)
  have hsl : ∀ j, j ≠ 0 → j ≠ 2 + (M 2 0 0 1 + M 2 0 0 2) % 6 → SE (sl M j) (sl M2 j) := fun j x y => SE_cell (fun K i s q => by
    show M2 K j i s = M K j i s
    rw [eS K q]; exact a2 K j i s q x y)
  have hnew : SE (sl M 0) (sl M2 (2 + (M 2 0 0 1 + M 2 0 0 2) % 6)) := SE_cg a3 (fun K i s q => by
    show M2 K (2 + (M 2 0 0 1 + M 2 0 0 2) % 6) i s = M1 K (2 + (M 2 0 0 1 + M 2 0 0 2) % 6) i s
    rw [eS K q])
  rcases Int.lt_or_le v 0 with z | z
  · obtain ⟨x1, x2⟩ := a4 z
    obtain ⟨y1, y2⟩ := b2 z
    refine ⟨by rw [e2, x1]; exact ho, by rw [e2, x2]; exact hz, by rw [y1, e2, x2, e8]; exact h8, fun i i0 i1 => ?_⟩
    rw [e2, x2] at i1
    rw [e2, x1]
    exact Hst_SE (Hst_cg (hh i i0 i1) (fun k _ _ => by rw [y2, e19])) (hsl _ (by omega) (by omega))
  · rcases Int.lt_or_le (M 2 0 0 2) 5 with y | y
    · obtain ⟨x1, x2⟩ := (a5 z).1 y
      have hk := (b1 z).1 (by rw [e8, h8]; exact y)
      rw [e8, h8] at hk
      obtain ⟨k1, k2, k3⟩ := hk
      refine ⟨by rw [e2, x1]; exact ho, by rw [e2, x2]; omega, by rw [k1, e2, x2], fun i i0 i1 => ?_⟩
      rw [e2, x2] at i1
      rw [e2, x1]
      by_cases q : i = M 2 0 0 2
      · rw [q]
        exact Hst_SE (Hst_cg hS (fun k k4 k5 => by rw [k3 k k4 k5, e17])) hnew
      · exact Hst_SE (Hst_cg (hh i i0 (by omega)) (fun k k4 k5 => by rw [k2 (589 * i + k) (by omega) (by omega), e19])) (hsl _ (by omega) (by omega))
    · have y5 : M 2 0 0 2 = 5 := by omega
      obtain ⟨x1, x2⟩ := (a5 z).2 y
      have hk := (b1 z).2 (by rw [e8, h8]; exact y5)
      obtain ⟨k1, k2, k3⟩ := hk
      refine ⟨by rw [e2, x1]; omega, by rw [e2, x2]; exact hz, by rw [k1, e2, x2, y5], fun i i0 i1 => ?_⟩
      rw [e2, x2] at i1
      rw [e2, x1]
      by_cases q : i = 4
      · rw [show 2 + ((M 2 0 0 1 + 1) % 6 + i) % 6 = 2 + (M 2 0 0 1 + M 2 0 0 2) % 6 by omega]
        exact Hst_SE (Hst_cg hS (fun k k4 k5 => by rw [q, show (589 : Int) * 4 + k = 2356 + k by omega, k3 k k4 k5, e17])) hnew
      · rw [show 2 + ((M 2 0 0 1 + 1) % 6 + i) % 6 = 2 + (M 2 0 0 1 + (i + 1)) % 6 by omega]
        exact Hst_SE (Hst_cg (hh (i + 1) (by omega) (by omega)) (fun k k4 k5 => by rw [k2 (589 * i + k) (by omega) (by omega), e19, show 589 * i + k + 589 = 589 * (i + 1) + k by omega])) (hsl _ (by omega) (by omega))
theorem Whi_up {m m2 : Int} {M : NM} (h : Whi m M) (h1 : m ≤ m2) (h2 : m2 ≤ 62000) : Whi m2 M := ⟨h.1, h.2.1, h.2.2.1, fun i a b => Hst_up (h.2.2.2 i a b) h1 h2⟩
theorem Wld_up {m m2 : Int} {M : NM} (h : Wld m M) (h1 : m ≤ m2) (h2 : m2 ≤ 62000) : Wld m2 M := ⟨Hst_up h.1 h1 h2, Whi_up h.2.1 h1 h2, h.2.2⟩
theorem io_chn : ∀ (k : Nat) {m : Int} {S : Sl} {b t : Int}, Inv m S → m + k ≤ 62000 → (t = -9 ∨ Mv S b t) → Inv (m + k) (chn S b t k).2 := by
  intro k
  induction k with
  | zero =>
    intro m S b t hI hm hM
    exact Inv_up1 hI (by omega) hm
  | succ k ih =>
    intro m S b t hI hm hM
    rw [chn]
    by_cases z : t = -9
    · rw [cif_t z]; exact Inv_up1 hI (by omega) hm
    · rw [cif_f z]
      have hMv := hM.resolve_left z
      have hO := HO_t hI hMv.1
      have hf := hO.1
      have hf2 := hO.2.2.2.1
      have hI2 := Inv_move hI (by omega) hMv
      have hb : 0 ≤ S 6 t 1 / 100 ∧ S 6 t 1 / 100 < mvS S t b 1 0 3 := ⟨by omega, hf2⟩
      have h3 := ih hI2 (by omega) (nm_Mv (by have := hI2.1.2.2.2.2.2.1; omega) hb)
      exact Inv_up1 h3 (by omega) hm
theorem io_upg {m : Int} {S : Sl} (hI : Inv m S) (hm : m + 20 ≤ 62000) {x : Int} : Inv (m + 20) (opUpg S x).2 := by
  have h0 : Inv (m + 20) S := Inv_up1 hI (by omega) hm
  unfold opUpg
  by_cases p : ¬ (0 ≤ x ∧ x < S 5 0 4)
  · rw [cif_t p]; exact h0
  · rw [cif_f p]
    have hc : Inv (m + 20) (opChain S x).2 := by
      unfold opChain
      by_cases z : S 6 x 0 ≠ 0
      · rw [cif_t z]; exact h0
      · rw [cif_f z]
        by_cases y : upF S (S 6 x 1 / 100) (S 6 x 2) (S 1 0 3).toNat = -9
        · rw [cif_t y]; exact h0
        · rw [cif_f y]
          exact io_chn 20 hI hm (Or.inr ((upF_Mv hI (Classical.not_not.mp p) (Classical.not_not.mp z)).resolve_left y))
    by_cases q : (opChain S x).1 = 0
    · rw [cif_t q]; exact hc
    · rw [cif_f q]; exact hc
/-- an order, on both sides -/
theorem step_op {m m2 : Int} {M M1 M2 : NM} {R : Int × Sl} (h : Wld m M) (h1 : m ≤ m2) (h2 : m2 ≤ 62000) (hI : Inv m2 R.2) (e1 : ∀ K i s, stK K → M1 K 0 i s = R.2 K i s) (kc : KPC R.1 M M1) (hr : RR (M2 17 0 0) R.2) (hs : SHo (M2 17 0 0) R.2) (kt : KPT R.1 M1 M2) : Wld m2 M2 := by
  have eS : ∀ K, stK K → M2 K = M1 K := fun K q => kt.2.2.1 K (by unfold stK at q; omega)
  have eK : ∀ K, ¬ stK K → K ≠ 2 → K ≠ 8 → K ≠ 17 → K ≠ 18 → K ≠ 19 → M2 K = M K := fun K q a b c d e => (kt.2.2.1 K (fun z => by omega)).trans (kc.1 K q a)
  have hSE : SE R.2 (sl M2 0) := SE_cell (fun K i s q => by
    show M2 K 0 i s = R.2 K i s
    rw [eS K q]; exact e1 K i s q)
  refine ⟨Hst_SE ⟨hI, hr, hs⟩ hSE, Whi_up (hist_step h.2.1 h.1 (KHi_C kc) (KTi_T kt)) h1 h2, ?_⟩
  obtain ⟨t1, t2, t3⟩ := h.2.2
  have e4 : M2 4 = M 4 := eK 4 stK_4 (by decide) (by decide) (by decide) (by decide) (by decide)
  have e8 : M2 8 0 0 6 = M 8 0 0 6 := kt.2.2.2.trans (by rw [kc.1 8 stK_8 (by decide)])
  refine ⟨by rw [e4]; exact t1, by rw [e8, e4]; exact t2, fun k a b => ?_⟩
  rw [e4] at b
  rw [eK 20 stK_20 (by decide) (by decide) (by decide) (by decide) (by decide), eK 15 stK_15 (by decide) (by decide) (by decide) (by decide) (by decide)]
  exact t3 k a b
/-- what a call of the reference needs, behind the class's -/
theorem ref_in {m : Int} {M M1 : NM} (h : Wld m M) (e17 : M1 17 = M 17) (e8 : M1 8 = M 8) : RW m M1 (sl M 0) ∧ SHo (M1 17 0 0) (sl M 0) ∧ (0 ≤ M1 8 0 0 4 ∧ M1 8 0 0 4 ≤ 5) := by
  refine ⟨⟨by rw [e17]; exact h.1.2.1, h.1.1⟩, by rw [e17]; exact h.1.2.2, ?_⟩
  have hz := h.2.1.2.1
  have h8 := h.2.1.2.2.1
  rw [e8]; omega
theorem ref_op {m v : Int} {M M1 : NM} (h : Wld m M) (kc : KPC v M M1) : RW m M1 (sl M 0) ∧ SHo (M1 17 0 0) (sl M 0) ∧ (0 ≤ M1 8 0 0 4 ∧ M1 8 0 0 4 ≤ 5) := ref_in h (kc.1 17 stK_17 (by decide)) (kc.1 8 stK_8 (by decide))
theorem Wld_cells {m : Int} {M MM : NM} (h : Wld m M) (hS : ∀ K j i s, stK K → j ≠ 1 → MM K j i s = M K j i s) (h17 : ∀ k, 0 ≤ k → k < 589 → MM 17 0 0 k = M 17 0 0 k) (h19 : MM 19 = M 19) (h2 : MM 2 = M 2) (h4 : MM 4 = M 4) (h15 : MM 15 = M 15) (h20 : MM 20 = M 20) (h84 : MM 8 0 0 4 = M 8 0 0 4) (h86 : MM 8 0 0 6 = M 8 0 0 6) : Wld m MM := by
  have hs : ∀ j, j ≠ 1 → SE (sl M j) (sl MM j) := fun j x => SE_cell (fun K i s q => hS K j i s q x)
  obtain ⟨g1, ⟨g2, g3, g4, g5⟩, ⟨g6, g7, g8⟩⟩ := h
  refine ⟨Hst_SE (Hst_cg g1 h17) (hs 0 (by decide)), ⟨by rw [h2]; exact g2, by rw [h2]; exact g3, by rw [h84, h2]; exact g4, fun i a b => ?_⟩, ⟨by rw [h4]; exact g6, by rw [h86, h4]; exact g7, fun k a b => by rw [h4] at b; rw [h20, h15]; exact g8 k a b⟩⟩
  rw [h2] at b
  rw [h2, h19]
  exact Hst_SE (g5 i a b) (hs _ (by omega))
/-- a look, on both sides -/
theorem step_look {m : Int} {M : NM} (h : Wld m M) : Wld m (wri M 8 0 0 0 0) := Wld_cells h (fun K j i s q _ => congrFun (congrFun (congrFun (wri_K (by unfold stK at q; omega)) j) i) s) (fun k _ _ => congrFun (congrFun (congrFun (wri_K (by decide)) 0) 0) k) (wri_K (by decide)) (wri_K (by decide)) (wri_K (by decide)) (wri_K (by decide)) (wri_K (by decide)) (wri_nes (by decide)) (wri_nes (by decide))
/-- chain -/
theorem step_chain {m : Int} {M M1 M2 : NM} (h : Wld m M) (f1 : FR 1 M M1) (f2 : ∀ k, 0 ≤ k → k < 589 → M2 17 0 0 k = M1 17 0 0 k) (f3 : Fo (fun K => K = 8 ∨ K = 17 ∨ K = 18) M1 M2) (f4 : ∀ j i s, s ≠ 0 → s ≠ 7 → M2 8 j i s = M1 8 j i s) : Wld m M2 := by
  have eK : ∀ K, ¬ stK K → K ≠ 8 → K ≠ 17 → K ≠ 18 → M2 K = M K := fun K q a b c => (f3 K (fun z => by omega)).trans (FR_K f1 q)
  refine Wld_cells h (fun K j i s q x => ?_) (fun k a b => by rw [f2 k a b, FR_K f1 stK_17]) (eK 19 stK_19 (by decide) (by decide) (by decide)) (eK 2 stK_2 (by decide) (by decide) (by decide)) (eK 4 stK_4 (by decide) (by decide) (by decide)) (eK 15 stK_15 (by decide) (by decide) (by decide)) (eK 20 stK_20 (by decide) (by decide) (by decide)) ?_ ?_
  · rw [f3 K (by unfold stK at q; omega)]; exact f1 K j i s (Or.inl x)
  · rw [f4 0 0 4 (by decide) (by decide), FR_K f1 stK_8]
  · rw [f4 0 0 6 (by decide) (by decide), FR_K f1 stK_8]
/-- undo: nothing to take back -/
theorem step_undo0 {m : Int} {M M2 : NM} (h : Wld m M) (hz : M 2 0 0 2 = 0) (hr : RR (M2 17 0 0) (sl M 0)) (hs : SHo (M2 17 0 0) (sl M 0)) (h84 : M2 8 0 0 4 = 0) (h86 : M2 8 0 0 6 = M 8 0 0 6) (fo : Fo (fun K => K = 8 ∨ K = 17) M M2) : Wld m M2 := by
  have hS : SE (sl M 0) (sl M2 0) := SE_cell (fun K i s q => by
    show M2 K 0 i s = M K 0 i s
    rw [fo K (by unfold stK at q; omega)])
  obtain ⟨g1, ⟨g2, g3, g4, g5⟩, ⟨g6, g7, g8⟩⟩ := h
  have e2 : M2 2 = M 2 := fo 2 (by decide)
  have e4 : M2 4 = M 4 := fo 4 (by decide)
  refine ⟨Hst_SE ⟨g1.1, hr, hs⟩ hS, ⟨by rw [e2]; exact g2, by rw [e2]; exact g3, by rw [h84, e2, hz], fun i a b => ?_⟩, ⟨by rw [e4]; exact g6, by rw [h86, e4]; exact g7, fun k a b => by rw [e4] at b; rw [fo 20 (by decide), fo 15 (by decide)]; exact g8 k a b⟩⟩
  rw [e2, hz] at b
  omega
/-- undo: the newest row comes back -/
theorem step_undo1 {m : Int} {M M1 M2 : NM} (h : Wld m M) (hz : M 2 0 0 2 ≠ 0) (hS : SE (sl M (2 + ((M 2 0 0 1 + (M 2 0 0 2 - 1)) % 6))) (sl M1 0)) (f1 : FR 0 (wri M 2 0 0 2 (M 2 0 0 2 - 1)) M1) (h84 : M2 8 0 0 4 = M1 8 0 0 4 - 1) (h17 : ∀ k, 0 ≤ k → k < 589 → M2 17 0 0 k = M1 19 0 0 (589 * (M1 8 0 0 4 - 1) + k)) (h86 : M2 8 0 0 6 = M1 8 0 0 6) (fo : Fo (fun K => K = 8 ∨ K = 17) M1 M2) : Wld m M2 := by
  have eK : ∀ K, ¬ stK K → K ≠ 2 → M1 K = M K := fun K q a => (FR_K f1 q).trans (wri_K a)
  have e8 : M1 8 = M 8 := eK 8 stK_8 (by decide)
  have e19 : M1 19 = M 19 := eK 19 stK_19 (by decide)
  have e2 : M2 2 = wri M 2 0 0 2 (M 2 0 0 2 - 1) 2 := (fo 2 (by decide)).trans (FR_K f1 stK_2)
  have e21 : M2 2 0 0 1 = M 2 0 0 1 := by rw [e2]; exact wri_nes (by decide)
  have e22 : M2 2 0 0 2 = M 2 0 0 2 - 1 := by rw [e2]; exact wri_eq
  have e4 : M2 4 = M 4 := (fo 4 (by decide)).trans (eK 4 stK_4 (by decide))
  have eS : ∀ K, stK K → M2 K = M1 K := fun K q => fo K (by unfold stK at q; omega)
  obtain ⟨g1, ⟨g2, g3, g4, g5⟩, ⟨g6, g7, g8⟩⟩ := h
  rw [e8, g4] at h84 h17
  rw [e19] at h17
  have hp := g5 (M 2 0 0 2 - 1) (by omega) (by omega)
  have hS0 : SE (sl M (2 + ((M 2 0 0 1 + (M 2 0 0 2 - 1)) % 6))) (sl M2 0) := SE_cg hS (fun K i s q => by
    show M2 K 0 i s = M1 K 0 i s
    rw [eS K q])
  refine ⟨Hst_SE (Hst_cg hp h17) hS0, ⟨by rw [e21]; exact g2, by rw [e22]; omega, by rw [h84, e22], fun i a b => ?_⟩, ⟨by rw [e4]; exact g6, by rw [h86, e8, e4]; exact g7, fun k a b => by
    rw [e4] at b
    rw [fo 20 (by decide), fo 15 (by decide), eK 20 stK_20 (by decide), eK 15 stK_15 (by decide)]; exact g8 k a b⟩⟩
  rw [e22] at b
  rw [e21, fo 19 (by decide), e19]
  refine Hst_SE (g5 i a (by omega)) (SE_cell (fun K i2 s q => ?_))
  show M2 K (2 + (M 2 0 0 1 + i) % 6) i2 s = M K (2 + (M 2 0 0 1 + i) % 6) i2 s
  rw [eS K q, f1 K (2 + (M 2 0 0 1 + i) % 6) i2 s (Or.inl (by omega)), wri_K (show K ≠ 2 by unfold stK at q; omega)]
/-- the text alone -/
theorem Wld_text {m : Int} {M MM : NM} (h : Wld m M) (hK : ∀ K, K ≠ 4 → K ≠ 8 → K ≠ 15 → K ≠ 20 → MM K = M K) (h84 : MM 8 0 0 4 = M 8 0 0 4) (ht : Wtx MM) : Wld m MM := by
  have hs : ∀ j, SE (sl M j) (sl MM j) := fun j => SE_cell (fun K i s q => by
    show MM K j i s = M K j i s
    rw [hK K (by unfold stK at q; omega) (by unfold stK at q; omega) (by unfold stK at q; omega) (by unfold stK at q; omega)])
  have e2 : MM 2 = M 2 := hK 2 (by decide) (by decide) (by decide) (by decide)
  have e17 : MM 17 = M 17 := hK 17 (by decide) (by decide) (by decide) (by decide)
  have e19 : MM 19 = M 19 := hK 19 (by decide) (by decide) (by decide) (by decide)
  obtain ⟨g1, ⟨g2, g3, g4, g5⟩, -⟩ := h
  refine ⟨by rw [e17]; exact Hst_SE g1 (hs 0), ⟨by rw [e2]; exact g2, by rw [e2]; exact g3, by rw [h84, e2]; exact g4, fun i a b => ?_⟩, ht⟩
  rw [e2] at b
  rw [e2, e19]
  exact Hst_SE (g5 i a b) (hs _)
theorem step_append {m c v : Int} {M M1 M2 : NM} (h : Wld m M) (hv : v = cif (¬ (1 ≤ c ∧ c ≤ 255)) (-1) (cif (M 4 0 0 2 = 120) (-3) (M 4 0 0 2 + 1))) (a1 : v < 0 → M1 = M) (a2 : 0 ≤ v → M1 4 0 0 2 = M 4 0 0 2 + 1 ∧ M1 15 0 0 (M 4 0 0 2) = c ∧ ∀ k, k ≠ M 4 0 0 2 → M1 15 0 0 k = M 15 0 0 k) (a3 : ∀ K, K ≠ 4 → K ≠ 15 → M1 K = M K) (b1 : v < 0 → M2 8 0 0 6 = M 4 0 0 2 ∧ M2 20 = M1 20) (b2 : 0 ≤ v → M2 8 0 0 6 = M 4 0 0 2 + 1 ∧ M2 20 0 0 (M 4 0 0 2) = c ∧ ∀ k, k ≠ M 4 0 0 2 → M2 20 0 0 k = M1 20 0 0 k) (b3 : Fo (fun K => K = 8 ∨ K = 20) M1 M2) (b4 : M2 8 0 0 4 = M1 8 0 0 4) : Wld m M2 := by
  have e8 : M1 8 = M 8 := a3 8 (by decide) (by decide)
  have e20 : M1 20 = M 20 := a3 20 (by decide) (by decide)
  obtain ⟨t1, t2, t3⟩ := h.2.2
  refine Wld_text h (fun K x1 x2 x3 x4 => (b3 K (fun z => by omega)).trans (a3 K x1 x3)) (by rw [b4, e8]) ?_
  have f4 : M2 4 = M1 4 := b3 4 (by decide)
  have f15 : M2 15 = M1 15 := b3 15 (by decide)
  unfold Wtx
  rw [f4, f15]
  rcases Int.lt_or_le v 0 with z | z
  · obtain ⟨y1, y2⟩ := b1 z
    rw [y1, y2, a1 z]
    exact ⟨t1, rfl, t3⟩
  · obtain ⟨x1, x2, x3⟩ := a2 z
    obtain ⟨y1, y2, y3⟩ := b2 z
    rw [e20] at y3
    have hlt : M 4 0 0 2 < 120 := by
      by_cases q : 1 ≤ c ∧ c ≤ 255
      · rw [cif_f (fun n => n q)] at hv
        by_cases r : M 4 0 0 2 = 120
        · rw [cif_t r] at hv; omega
        · omega
      · rw [cif_t q] at hv; omega
    refine ⟨by omega, by rw [y1, x1], fun k k0 k1 => ?_⟩
    by_cases q : k = M 4 0 0 2
    · rw [q, y2, x2]
    · rw [y3 k q, x3 k q]; exact t3 k k0 (by omega)
theorem step_clear {m : Int} {M M2 : NM} (h : Wld m M) (b1 : M2 8 0 0 6 = 0) (b3 : Fo (fun K => K = 8) (wri M 4 0 0 2 0) M2) (b4 : M2 8 0 0 4 = wri M 4 0 0 2 0 8 0 0 4) : Wld m M2 := by
  have e8 : wri M 4 0 0 2 0 8 = M 8 := wri_K (by decide)
  refine Wld_text h (fun K x1 x2 x3 x4 => (b3 K x2).trans (wri_K x1)) (by rw [b4, e8]) ?_
  have f4 : M2 4 0 0 2 = 0 := by rw [b3 4 (by decide)]; exact wri_eq
  refine ⟨by omega, by rw [b1, f4], fun k k0 k1 => by omega⟩
/-- a program, on both sides -/
theorem step_run {m : Int} {M M1 M2 : NM} {P : Int × Sl} (h : Wld m M) (h2 : m + 120 ≤ 62000) (c1 : P.1 < 0 → SE (sl M 0) (sl M1 0)) (c2 : 0 ≤ P.1 → SQ P.2 (sl M1 0) ∧ Inv (m + 120) (sl M1 0)) (kc : KPP P.1 M M1) (r1 : P.1 < 0 → RR (M2 17 0 0) (sl M 0) ∧ SHo (M2 17 0 0) (sl M 0)) (r2 : 0 ≤ P.1 → RR (M2 17 0 0) P.2 ∧ SHo (M2 17 0 0) P.2) (kt : KPR P.1 M1 M2) : Wld (m + 120) M2 := by
  have eS : ∀ K, stK K → M2 K = M1 K := fun K q => kt.2.2 K (by unfold stK at q; omega)
  have hS : SE (sl M1 0) (sl M2 0) := SE_cell (fun K i s q => by
    show M2 K 0 i s = M1 K 0 i s
    rw [eS K q])
  have hm0 : m ≤ m + 120 := by omega
  have e15 : M2 15 = M 15 := (kt.2.2 15 (by decide)).trans (kc.1 15 stK_15 (by decide) (by decide) (by decide))
  have e20 : M2 20 = M 20 := (kt.2.2 20 (by decide)).trans (kc.1 20 stK_20 (by decide) (by decide) (by decide))
  have e4 : M2 4 = M1 4 := kt.2.2 4 (by decide)
  have e86 : M1 8 0 0 6 = M 8 0 0 6 := by rw [kc.1 8 stK_8 (by decide) (by decide) (by decide)]
  obtain ⟨t1, t2, t3⟩ := h.2.2
  refine ⟨?_, Whi_up (hist_step h.2.1 h.1 (KHi_P kc) (KTi_R kt)) hm0 h2, ?_⟩
  · rcases Int.lt_or_le P.1 0 with z | z
    · exact Hst_SE (Hst_SE (Hst_up ⟨h.1.1, (r1 z).1, (r1 z).2⟩ hm0 h2) (c1 z)) hS
    · have q := SQ_SE (c2 z).1
      refine Hst_SE ⟨(c2 z).2, RR_SE (r2 z).1 q, ?_⟩ hS
      have k := (r2 z).2
      unfold SHo at *
      rw [k, SQ_5 (c2 z).1, SQ_6 (c2 z).1]
  · unfold Wtx
    rw [e4, e15, e20]
    rcases Int.lt_or_le P.1 0 with z | z
    · rw [kc.2.1 z, (kt.2.1 z).2.2, e86]
      exact ⟨t1, t2, t3⟩
    · rw [kc.2.2.1 z, (kt.1 z).2]
      exact ⟨by omega, rfl, fun k k0 k1 => by omega⟩
