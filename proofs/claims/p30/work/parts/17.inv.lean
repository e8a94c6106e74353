/-! 17: what holds of every stadium is kept -/
theorem bec_in {S : Sl} {f n w c : Int} (h1 : f ≤ c) (h2 : c < f + n) : bec S f n w 13 0 c = w := if_pos ⟨rfl, rfl, h1, h2⟩
theorem bec_out {S : Sl} {f n w c : Int} (h : ¬ (f ≤ c ∧ c < f + n)) : bec S f n w 13 0 c = S 13 0 c := if_neg (fun z => h z.2.2)
theorem st_eq {S : Sl} {K : Nat} {i s v : Int} : st S K i s v K i s = v := if_pos ⟨rfl, rfl, rfl⟩
theorem st_nei {S : Sl} {K : Nat} {i s v i' s' : Int} (h : i' ≠ i) : st S K i s v K i' s' = S K i' s' := if_neg (fun z => h z.2.1)
theorem st_nes {S : Sl} {K : Nat} {i s v i' s' : Int} (h : s' ≠ s) : st S K i s v K i' s' = S K i' s' := if_neg (fun z => h z.2.2)
theorem isCh_cg {S S' : Sl} (h0 : ∀ b w, S' 0 b w = S 0 b w) (h1 : S' 1 0 3 = S 1 0 3) (c : Int) : isCh S' c ↔ isCh S c := by
  unfold isCh; rw [h0, h0, h1]
theorem HO_cg {S S' : Sl} (h0 : ∀ b w, S' 0 b w = S 0 b w) (h1 : S' 1 0 3 = S 1 0 3) {f n : Int} (h : HO S f n) : HO S' f n := by
  unfold HO; rw [h0, h0, h1]; exact h
theorem kl_cg {S S' : Sl} (h5 : S' 1 0 5 = S 1 0 5) (h14 : ∀ c, S' 14 0 c = S 14 0 c) (c : Int) : kl S' c ↔ kl S c := by
  unfold kl; rw [h5, h14]
theorem HO_r {m : Int} {S : Sl} (hI : Inv m S) {f n : Int} (h : HO S f n) : (0 ≤ f ∧ f ≤ 590) ∧ (1 ≤ n ∧ n ≤ 10) := by
  obtain ⟨h0, h1, h2, h3, h4, h5⟩ := h
  have hi := hI.1.2.1
  have hb := hI.2.1 (f / 100) (by omega) h3
  omega
theorem HO_ch {m : Int} {S : Sl} (hI : Inv m S) {f n c : Int} (h : HO S f n) (h1 : f ≤ c) (h2 : c < f + n) : isCh S c := by
  obtain ⟨g0, g1, g2, g3, g4, g5⟩ := h
  have hb := hI.2.1 (f / 100) (by omega) g3
  have e1 : c / 100 = f / 100 := by omega
  have e2 : c / 10 % 10 = f / 10 % 10 := by omega
  unfold isCh
  rw [e1, e2]
  exact ⟨by omega, g3, g4, by omega⟩
theorem IvB_cg {S S' : Sl} (h : IvB S) (h0 : ∀ b w, S' 0 b w = S 0 b w) (h1 : S' 1 0 3 = S 1 0 3) : IvB S' := by
  intro b b0 b1
  rw [h0, h0, h0]
  exact h b b0 (by rw [← h1]; exact b1)
theorem IvC_bec {m : Int} {S S' : Sl} {f n w : Int} (hI : Inv m S) (h0 : ∀ b w, S' 0 b w = S 0 b w) (h1 : S' 1 0 3 = S 1 0 3) (h5 : S' 1 0 5 = S 1 0 5) (h14 : ∀ c, S' 14 0 c = S 14 0 c) (h13 : ∀ c, S' 13 0 c = bec S f n w 13 0 c) (hHO : HO S f n) (hw : 0 ≤ w ∧ w ≤ 3) (hk : w = 0 ∨ ∀ c, f ≤ c → c < f + n → ¬ kl S c) : IvC S' := by
  intro c c0 c1
  have q := hI.2.2.1 c c0 c1
  rw [h13, h14, isCh_cg h0 h1, kl_cg h5 h14]
  by_cases z : f ≤ c ∧ c < f + n
  · rw [bec_in z.1 z.2]
    exact ⟨hw, q.2.1, fun y => absurd (HO_ch hI hHO z.1 z.2) y, fun y => hk.elim id (fun k => absurd y (k c z.1 z.2))⟩
  · rw [bec_out z]; exact q
theorem IvC_same {S S' : Sl} (h : IvC S) (h0 : ∀ b w, S' 0 b w = S 0 b w) (h1 : S' 1 0 3 = S 1 0 3) (h5 : S' 1 0 5 = S 1 0 5) (h14 : ∀ c, S' 14 0 c = S 14 0 c) (h13 : ∀ c, S' 13 0 c = S 13 0 c) : IvC S' := by
  intro c c0 c1
  rw [h13, h14, isCh_cg h0 h1, kl_cg h5 h14]
  exact h c c0 c1
/-- who has chairs still has them -/
theorem IvO_keep {S S' : Sl} {K : Nat} {N N' w : Int} (h : IvO S K N w) (k : ∀ x, 0 ≤ x → x < N' → S' K x 0 = 0 → x < N ∧ S K x 0 = 0 ∧ S' K x 1 = S K x 1 ∧ S' K x 2 = S K x 2 ∧ ∀ c, S K x 1 ≤ c → c < S K x 1 + S K x 2 → S' 13 0 c = S 13 0 c) : IvO S' K N' w := by
  intro x x0 x1 x2
  obtain ⟨k1, k2, k3, k4, k5⟩ := k x x0 x1 x2
  obtain ⟨a, b⟩ := h x x0 k1 k2
  rw [k3, k4]
  refine ⟨fun c c0 c1 => by rw [k5 c c0 c1]; exact a c c0 c1, fun y y0 y1 y2 y3 => ?_⟩
  obtain ⟨l1, l2, l3, l4, l5⟩ := k y y0 y1 y2
  rw [l3, l4]
  exact b y y0 l1 l2 y3
theorem IvO_add {S S' : Sl} {K : Nat} {N w f n : Int} (h : IvO S K N w) (e1 : S' K N 1 = f) (e2 : S' K N 2 = n)
    (k : ∀ x, 0 ≤ x → x < N → S' K x 0 = 0 → S K x 0 = 0 ∧ S' K x 1 = S K x 1 ∧ S' K x 2 = S K x 2 ∧ (∀ c, S K x 1 ≤ c → c < S K x 1 + S K x 2 → ¬ (f ≤ c ∧ c < f + n)) ∧ ∀ c, S K x 1 ≤ c → c < S K x 1 + S K x 2 → S' 13 0 c = S 13 0 c) (hn : ∀ x, 0 ≤ x → x < N → S K x 0 = 0 → 1 ≤ S K x 2) (hn2 : 1 ≤ n)
    (hw : ∀ c, f ≤ c → c < f + n → S' 13 0 c = w) : IvO S' K (N + 1) w := by
  have dis : ∀ x, 0 ≤ x → x < N → S' K x 0 = 0 → S K x 1 + S K x 2 ≤ f ∨ f + n ≤ S K x 1 := by
    intro x x0 x1 x2
    obtain ⟨k1, k2, k3, k4, k5⟩ := k x x0 x1 x2
    have := hn x x0 x1 k1
    rcases Int.lt_or_le (S K x 1) f with z | z
    · rcases Int.lt_or_le f (S K x 1 + S K x 2) with y | y
      · exact absurd ⟨Int.le_refl f, by omega⟩ (k4 f (by omega) y)
      · exact Or.inl y
    · rcases Int.lt_or_le (S K x 1) (f + n) with y | y
      · exact absurd ⟨z, y⟩ (k4 (S K x 1) (Int.le_refl _) (by omega))
      · exact Or.inr y
  intro x x0 x1 x2
  by_cases q : x = N
  · subst q
    rw [e1, e2]
    refine ⟨hw, fun y y0 y1 y2 y3 => ?_⟩
    have hy : y < x := by omega
    obtain ⟨k1, k2, k3, k4, k5⟩ := k y y0 hy y2
    rw [k2, k3]
    exact (dis y y0 hy y2).symm
  · have hx : x < N := by omega
    obtain ⟨k1, k2, k3, k4, k5⟩ := k x x0 hx x2
    obtain ⟨a, b⟩ := h x x0 hx k1
    rw [k2, k3]
    refine ⟨fun c c0 c1 => by rw [k5 c c0 c1]; exact a c c0 c1, fun y y0 y1 y2 y3 => ?_⟩
    by_cases q2 : y = N
    · subst q2
      rw [e1, e2]
      exact dis x x0 hx x2
    · have hy : y < N := by omega
      obtain ⟨l1, l2, l3, l4, l5⟩ := k y y0 hy y2
      rw [l2, l3]
      exact b y y0 hy l1 y3
/-- a chair of a group that is placed -/
def pld (S : Sl) (b n f : Int) : Prop := ∃ r c, (0 ≤ r ∧ r < S 0 b 0) ∧ (0 ≤ c ∧ c < S 0 b 1) ∧ f = 100 * b + 10 * r + c ∧ are S (100 * b + 10 * r) c n
theorem plC_pld {S : Sl} {b r n : Int} (hr : 0 ≤ r ∧ r < S 0 b 0) {p : Int × Int} (hp : p.1 = -9 ∨ pld S b n p.1) : ∀ k : Nat, (k : Int) ≤ S 0 b 1 → (plC S (100 * b + 10 * r) n p k).1 = -9 ∨ pld S b n (plC S (100 * b + 10 * r) n p k).1 := by
  intro k
  induction k with
  | zero => intro _; exact hp
  | succ k ih =>
    intro hk
    rw [plC]
    by_cases h : are S (100 * b + 10 * r) k n ∧ la S (100 * b + 10 * r) k n < (plC S (100 * b + 10 * r) n p k).2
    · rw [cif_t h]; exact Or.inr ⟨r, k, hr, ⟨by omega, by omega⟩, rfl, h.1⟩
    · rw [cif_f h]; exact ih (by omega)
theorem plR_pld {S : Sl} {b n i0 : Int} (hC : 0 ≤ S 0 b 1) : ∀ k : Nat, (k : Int) ≤ S 0 b 0 → (plR S b n i0 k).1 = -9 ∨ pld S b n (plR S b n i0 k).1 := by
  intro k
  induction k with
  | zero => intro _; exact Or.inl rfl
  | succ k ih =>
    intro hk
    rw [plR]
    exact plC_pld ⟨by omega, by omega⟩ (ih (by omega)) _ (by omega)
theorem pl_pld {m : Int} {S : Sl} (hI : Inv m S) {b n : Int} (hb : 0 ≤ b ∧ b < S 1 0 3) (h : pl S b n ≠ -9) : pld S b n (pl S b n) := by
  have q := hI.2.1 b hb.1 hb.2
  rcases plR_pld (S := S) (b := b) (n := n) (i0 := 3) (by omega) (S 0 b 0).toNat (by omega) with z | z
  · exact absurd z h
  · exact z
theorem pld_HO {m : Int} {S : Sl} (hI : Inv m S) {b n f : Int} (hb : 0 ≤ b ∧ b < S 1 0 3) (hn : 1 ≤ n ∧ n ≤ 10) (h : pld S b n f) : HO S f n ∧ f / 100 = b ∧ ∀ c, f ≤ c → c < f + n → S 13 0 c = 0 ∧ ¬ kl S c := by
  obtain ⟨r, c, hr, hc, rfl, ha⟩ := h
  have q := hI.2.1 b hb.1 hb.2
  have e1 : (100 * b + 10 * r + c) / 100 = b := by omega
  have e2 : (100 * b + 10 * r + c) / 10 % 10 = r := by omega
  have e3 : (100 * b + 10 * r + c) % 10 = c := by omega
  have hl := opn_lt hb.1 hr.1 (by omega) (ha (n - 1) (by omega) (by omega))
  refine ⟨⟨by omega, hn.1, hn.2, by rw [e1]; exact hb.2, by rw [e1, e2]; exact hr.2, by rw [e1, e3]; omega⟩, e1, fun x x0 x1 => ?_⟩
  have := (ha (x - (100 * b + 10 * r + c)) (by omega) (by omega)).2
  rw [show 100 * b + 10 * r + (c + (x - (100 * b + 10 * r + c))) = x by omega] at this
  exact this.2
theorem pl_HO {m : Int} {S : Sl} (hI : Inv m S) {b n : Int} (hb : 0 ≤ b ∧ b < S 1 0 3) (hn : 1 ≤ n ∧ n ≤ 10) (h : pl S b n ≠ -9) : HO S (pl S b n) n ∧ pl S b n / 100 = b ∧ ∀ c, pl S b n ≤ c → c < pl S b n + n → S 13 0 c = 0 ∧ ¬ kl S c := pld_HO hI hb hn (pl_pld hI hb h)
theorem nT_lt {m : Int} {S : Sl} (hI : Inv m S) {x : Int} (hx : 0 ≤ x ∧ x < S 5 0 3) (h0 : S 3 x 0 = 0) : S 5 0 4 < 20 := by
  have hc := hI.2.2.2.2.2.2.2
  have hi := hI.1.2.2.2.2.1
  have e : sm (fun h => cif (h = x) 1 (bi (S 3 h 0 = 1))) (S 5 0 3).toNat = sm (fun h => bi (S 3 h 0 = 1)) (S 5 0 3).toNat - bi (S 3 x 0 = 1) + cif (x = x) 1 (bi (S 3 x 0 = 1)) := sm_upd (f := fun h => bi (S 3 h 0 = 1)) (g := fun h => cif (h = x) 1 (bi (S 3 h 0 = 1))) (k := x) (n := (S 5 0 3).toNat) hx.1 (by omega) (fun i a b c => cif_f c)
  rw [cif_t rfl] at e
  have e2 := sm_bnd (f := fun h => cif (h = x) 1 (bi (S 3 h 0 = 1))) (c := 1) (fun k => by
    by_cases q : k = x
    · rw [cif_t q]; omega
    · rw [cif_f q]; exact ⟨bi_ge _, bi_le _⟩) (S 5 0 3).toNat
  rw [bi_f (by omega : ¬ S 3 x 0 = 1)] at e
  omega
section
variable {m : Int} {S : Sl}
theorem Inv_up1 {m' : Int} (hI : Inv m S) (h : m ≤ m') (h2 : m' ≤ 62000) : Inv m' S := by
  obtain ⟨⟨a1, a2, a3, a4, a5, a6, a7, a8, a9, a10, a11⟩, b, c, d, e, f⟩ := hI
  exact ⟨⟨by omega, a2, a3, a4, a5, a6, a7, a8, by omega, by omega, by omega⟩, b, c, d, fun t t0 t1 => by
    obtain ⟨e1, e2, e3, e4⟩ := e t t0 t1
    exact ⟨e1, e2, e3, by omega⟩, f⟩
/-- holds and tickets are as before, but the chairs f .. of a group, whose owner (if any) is no longer one -/
theorem IvO_free {K : Nat} {N w : Int} {S' : Sl} {f n : Int} (h : IvO S K N w) (hs : ∀ x, 0 ≤ x → x < N → S' K x 0 = 0 → S K x 0 = 0 ∧ S' K x 1 = S K x 1 ∧ S' K x 2 = S K x 2 ∧ ∀ c, S K x 1 ≤ c → c < S K x 1 + S K x 2 → ¬ (f ≤ c ∧ c < f + n)) {v : Int} (h13 : ∀ c, S' 13 0 c = bec S f n v 13 0 c) : IvO S' K N w :=
  IvO_keep h (fun x x0 x1 x2 => by
    obtain ⟨a, b, c, d⟩ := hs x x0 x1 x2
    exact ⟨x1, a, b, c, fun c c0 c1 => by rw [h13, bec_out (d c c0 c1)]⟩)
theorem dis_of {K : Nat} {N w : Int} (h : IvO S K N w) {x y : Int} (hx : 0 ≤ x ∧ x < N) (hy : 0 ≤ y ∧ y < N) (h0 : S K x 0 = 0) (h1 : S K y 0 = 0) (hne : x ≠ y) : ∀ c, S K x 1 ≤ c → c < S K x 1 + S K x 2 → ¬ (S K y 1 ≤ c ∧ c < S K y 1 + S K y 2) := by
  intro c c0 c1 z
  have := (h x hx.1 hx.2 h0).2 y hy.1 hy.2 h1 (Ne.symm hne)
  omega
theorem dis_w {K : Nat} {N w f n : Int} (h : IvO S K N w) {x : Int} (hx : 0 ≤ x ∧ x < N) (h0 : S K x 0 = 0) (hf : ∀ c, f ≤ c → c < f + n → S 13 0 c ≠ w) : ∀ c, S K x 1 ≤ c → c < S K x 1 + S K x 2 → ¬ (f ≤ c ∧ c < f + n) := fun c c0 c1 z => hf c z.1 z.2 ((h x hx.1 hx.2 h0).1 c c0 c1)
theorem Inv_hold (hI : Inv m S) (hm : m + 1 ≤ 62000) {f n w : Int} (hw : 1 ≤ w ∧ w ≤ 999) (hHO : HO S f n) (hc : ∀ c, f ≤ c → c < f + n → S 13 0 c = 0 ∧ ¬ kl S c) (hh : S 5 0 3 < 20) : Inv (m + 1) (holdS S f n w) := by
  obtain ⟨⟨a1, a2, a3, a4, a5, a6, a7, a8, a9, a10, a11⟩, hB, hC, hH, hT, hO3, hO6, hN⟩ := hI
  have hI : Inv m S := ⟨⟨a1, a2, a3, a4, a5, a6, a7, a8, a9, a10, a11⟩, hB, hC, hH, hT, hO3, hO6, hN⟩
  have h0 : ∀ b w', holdS S f n w 0 b w' = S 0 b w' := fun _ _ => rfl
  have h1 : holdS S f n w 1 0 3 = S 1 0 3 := rfl
  have h13 : ∀ c, holdS S f n w 13 0 c = bec S f n 1 13 0 c := fun _ => rfl
  have e3 : holdS S f n w 5 0 3 = S 5 0 3 + 1 := rfl
  have e4 : holdS S f n w 5 0 4 = S 5 0 4 := rfl
  have hold_o : ∀ x s, x ≠ S 5 0 3 → holdS S f n w 3 x s = S 3 x s := fun x s q => by
    show st (st (st (st (st S 3 (S 5 0 3) 0 0) 3 (S 5 0 3) 1 f) 3 (S 5 0 3) 2 n) 3 (S 5 0 3) 3 (S 5 0 5 + w)) 3 (S 5 0 3) 4 (-9) 3 x s = _
    rw [st_nei q, st_nei q, st_nei q, st_nei q, st_nei q]
  have n0 : holdS S f n w 3 (S 5 0 3) 0 = 0 := by
    show st (st (st (st (st S 3 (S 5 0 3) 0 0) 3 (S 5 0 3) 1 f) 3 (S 5 0 3) 2 n) 3 (S 5 0 3) 3 (S 5 0 5 + w)) 3 (S 5 0 3) 4 (-9) 3 (S 5 0 3) 0 = _
    rw [st_nes (by decide), st_nes (by decide), st_nes (by decide), st_nes (by decide), st_eq]
  have n1 : holdS S f n w 3 (S 5 0 3) 1 = f := by
    show st (st (st (st (st S 3 (S 5 0 3) 0 0) 3 (S 5 0 3) 1 f) 3 (S 5 0 3) 2 n) 3 (S 5 0 3) 3 (S 5 0 5 + w)) 3 (S 5 0 3) 4 (-9) 3 (S 5 0 3) 1 = _
    rw [st_nes (by decide), st_nes (by decide), st_nes (by decide), st_eq]
  have n2 : holdS S f n w 3 (S 5 0 3) 2 = n := by
    show st (st (st (st (st S 3 (S 5 0 3) 0 0) 3 (S 5 0 3) 1 f) 3 (S 5 0 3) 2 n) 3 (S 5 0 3) 3 (S 5 0 5 + w)) 3 (S 5 0 3) 4 (-9) 3 (S 5 0 3) 2 = _
    rw [st_nes (by decide), st_nes (by decide), st_eq]
  have n3 : holdS S f n w 3 (S 5 0 3) 3 = S 5 0 5 + w := by
    show st (st (st (st (st S 3 (S 5 0 3) 0 0) 3 (S 5 0 3) 1 f) 3 (S 5 0 3) 2 n) 3 (S 5 0 3) 3 (S 5 0 5 + w)) 3 (S 5 0 3) 4 (-9) 3 (S 5 0 3) 3 = _
    rw [st_nes (by decide), st_eq]
  refine ⟨⟨by omega, a2, a3, a4, ?_, a6, a7, a8, ?_, ?_, ?_⟩, IvB_cg hB h0 h1, IvC_bec hI h0 h1 rfl (fun _ => rfl) h13 hHO (by omega) (Or.inr (fun c c0 c1 => (hc c c0 c1).2)), ?_, ?_, ?_, ?_, ?_⟩
  · rw [e3]; omega
  · show 0 ≤ S 5 0 7 ∧ S 5 0 7 ≤ 5000 * (m + 1); omega
  · show 0 ≤ S 5 0 8 ∧ S 5 0 8 ≤ 5000 * (m + 1); omega
  · show 0 ≤ S 5 0 9 ∧ S 5 0 9 ≤ 20 * (m + 1); omega
  · intro x x0 x1
    rw [e3] at x1
    by_cases q : x = S 5 0 3
    · subst q; rw [n0, n1, n2, n3]; exact ⟨HO_cg h0 h1 hHO, by omega, by omega⟩
    · rw [hold_o x 0 q, hold_o x 1 q, hold_o x 2 q, hold_o x 3 q]
      obtain ⟨p1, p2⟩ := hH x x0 (by omega)
      exact ⟨HO_cg h0 h1 p1, p2⟩
  · intro t t0 t1
    obtain ⟨p1, p2, p3, p4⟩ := hT t t0 t1
    exact ⟨HO_cg h0 h1 p1, p2, p3, show 0 ≤ S 6 t 4 ∧ S 6 t 4 ≤ 20 * (m + 1) by omega⟩
  · rw [e3]
    refine IvO_add hO3 n1 n2 (fun x x0 x1 x2 => ?_) (fun x x0 x1 _ => (hH x x0 x1).1.2.1) hHO.2.1 (fun c c0 c1 => by rw [h13, bec_in c0 c1])
    rw [hold_o x 0 (by omega)] at x2
    rw [hold_o x 1 (by omega), hold_o x 2 (by omega)]
    have dd := dis_w (f := f) (n := n) hO3 ⟨x0, x1⟩ x2 (fun c c0 c1 => by rw [(hc c c0 c1).1]; decide)
    exact ⟨x2, rfl, rfl, dd, fun c c0 c1 => by rw [h13, bec_out (dd c c0 c1)]⟩
  · rw [e4]
    refine IvO_free hO6 (fun x x0 x1 x2 => ⟨x2, rfl, rfl, dis_w hO6 ⟨x0, x1⟩ x2 (fun c c0 c1 => by rw [(hc c c0 c1).1]; decide)⟩) h13
  · rw [e3, e4, sm_step a5.1, bi_f (by rw [n0]; decide), Int.add_zero, ← hN]
    exact sm_congr (fun k k0 k1 => by rw [hold_o k 0 (by omega)])
theorem HO_t (hI : Inv m S) {t : Int} (ht : 0 ≤ t ∧ t < S 5 0 4) : HO S (S 6 t 1) (S 6 t 2) := (hI.2.2.2.2.1 t ht.1 ht.2).1
theorem HO_h (hI : Inv m S) {h : Int} (hh : 0 ≤ h ∧ h < S 5 0 3) : HO S (S 3 h 1) (S 3 h 2) := (hI.2.2.2.1 h hh.1 hh.2).1
theorem pr_r (hI : Inv m S) {f n : Int} (h : HO S f n) : 1 ≤ n * S 0 (f / 100) 2 ∧ n * S 0 (f / 100) 2 ≤ 5000 := by
  have q := hI.2.1 (f / 100) (by have := h.1; omega) h.2.2.2.1
  have h1 := h.2.1
  have h2 := h.2.2.1
  have e1 : 1 * 1 ≤ n * S 0 (f / 100) 2 := Int.mul_le_mul h1 q.2.2.1 (by omega) (by omega)
  have e2 : n * S 0 (f / 100) 2 ≤ 10 * 500 := Int.mul_le_mul h2 q.2.2.2 (by omega) (by omega)
  omega
/-- a stadium whose blocks, stages, times are as before -/
def sameB (S S' : Sl) : Prop := (∀ b w, S' 0 b w = S 0 b w) ∧ (∀ s, S' 1 0 s = S 1 0 s) ∧ (∀ c, S' 14 0 c = S 14 0 c)
theorem Inv_buy (hI : Inv m S) (hm : m + 1 ≤ 62000) {h : Int} (hh : 0 ≤ h ∧ h < S 5 0 3) (ho : S 3 h 0 = 0) : Inv (m + 1) (buyS S h) := by
  have hT20 := nT_lt hI hh ho
  have hHO := HO_h hI hh
  have hpr := pr_r hI hHO
  have hI2 := hI
  obtain ⟨⟨a1, a2, a3, a4, a5, a6, a7, a8, a9, a10, a11⟩, hB, hC, hH, hT, hO3, hO6, hN⟩ := hI2
  have h0 : ∀ b w', buyS S h 0 b w' = S 0 b w' := fun _ _ => rfl
  have h1 : buyS S h 1 0 3 = S 1 0 3 := rfl
  have h13 : ∀ c, buyS S h 13 0 c = bec S (S 3 h 1) (S 3 h 2) (cif (S 5 0 6 = 0) 2 3) 13 0 c := fun _ => rfl
  have e3 : buyS S h 5 0 3 = S 5 0 3 := rfl
  have e4 : buyS S h 5 0 4 = S 5 0 4 + 1 := rfl
  have e7 : buyS S h 5 0 7 = S 5 0 7 + S 3 h 2 * S 0 (S 3 h 1 / 100) 2 := rfl
  have b3 : ∀ x s, buyS S h 3 x s = st (st S 3 h 0 1) 3 h 4 (S 5 0 4) 3 x s := fun _ _ => rfl
  have b6 : ∀ x s, buyS S h 6 x s = st (st (st (st (st S 6 (S 5 0 4) 0 (cif (S 5 0 6 = 0) 0 2)) 6 (S 5 0 4) 1 (S 3 h 1)) 6 (S 5 0 4) 2 (S 3 h 2)) 6 (S 5 0 4) 3 (S 3 h 2 * S 0 (S 3 h 1 / 100) 2)) 6 (S 5 0 4) 4 0 6 x s := fun _ _ => rfl
  have b3h : buyS S h 3 h 0 = 1 := by rw [b3, st_nes (by decide), st_eq]
  have b3o : ∀ x s, x ≠ h → buyS S h 3 x s = S 3 x s := fun x s q => by rw [b3, st_nei q, st_nei q]
  have b3s : ∀ x s, s ≠ 0 → s ≠ 4 → buyS S h 3 x s = S 3 x s := fun x s q q2 => by rw [b3, st_nes q2, st_nes q]
  have b6o : ∀ x s, x ≠ S 5 0 4 → buyS S h 6 x s = S 6 x s := fun x s q => by rw [b6, st_nei q, st_nei q, st_nei q, st_nei q, st_nei q]
  have n0 : buyS S h 6 (S 5 0 4) 0 = cif (S 5 0 6 = 0) 0 2 := by rw [b6, st_nes (by decide), st_nes (by decide), st_nes (by decide), st_nes (by decide), st_eq]
  have n1 : buyS S h 6 (S 5 0 4) 1 = S 3 h 1 := by rw [b6, st_nes (by decide), st_nes (by decide), st_nes (by decide), st_eq]
  have n2 : buyS S h 6 (S 5 0 4) 2 = S 3 h 2 := by rw [b6, st_nes (by decide), st_nes (by decide), st_eq]
  have n3 : buyS S h 6 (S 5 0 4) 3 = S 3 h 2 * S 0 (S 3 h 1 / 100) 2 := by rw [b6, st_nes (by decide), st_eq]
  have n4 : buyS S h 6 (S 5 0 4) 4 = 0 := by rw [b6, st_eq]
  have hw1 : ∀ c, S 3 h 1 ≤ c → c < S 3 h 1 + S 3 h 2 → S 13 0 c = 1 := (hO3 h hh.1 hh.2 ho).1
  have hcr := HO_r hI hHO
  have hnk : ∀ c, S 3 h 1 ≤ c → c < S 3 h 1 + S 3 h 2 → ¬ kl S c := fun c c0 c1 z => by
    have := (hC c (by omega) (by omega)).2.2.2 z
    rw [hw1 c c0 c1] at this; omega
  have hv : (0 : Int) ≤ cif (S 5 0 6 = 0) 2 3 ∧ cif (S 5 0 6 = 0) (2 : Int) 3 ≤ 3 := by
    by_cases q : S 5 0 6 = 0
    · rw [cif_t q]; omega
    · rw [cif_f q]; omega
  refine ⟨⟨by omega, a2, a3, a4, a5, ?_, a7, a8, ?_, ?_, ?_⟩, IvB_cg hB h0 h1, IvC_bec hI h0 h1 rfl (fun _ => rfl) h13 hHO hv (Or.inr hnk), ?_, ?_, ?_, ?_, ?_⟩
  · rw [e4]; omega
  · rw [e7]; omega
  · show 0 ≤ S 5 0 8 ∧ S 5 0 8 ≤ 5000 * (m + 1); omega
  · show 0 ≤ S 5 0 9 ∧ S 5 0 9 ≤ 20 * (m + 1); omega
  · intro x x0 x1
    obtain ⟨p1, p2, p3⟩ := hH x x0 x1
    rw [b3s x 1 (by decide) (by decide), b3s x 2 (by decide) (by decide), b3s x 3 (by decide) (by decide)]
    refine ⟨HO_cg h0 h1 p1, ?_, p3⟩
    by_cases q : x = h
    · rw [q, b3h]; omega
    · rw [b3o x 0 q]; exact p2
  · intro t t0 t1
    rw [e4] at t1
    by_cases q : t = S 5 0 4
    · subst q
      rw [n0, n1, n2, n3, n4]
      refine ⟨HO_cg h0 h1 hHO, ?_, by omega, by omega⟩
      by_cases q : S 5 0 6 = 0
      · rw [cif_t q]; omega
      · rw [cif_f q]; omega
    · rw [b6o t 0 q, b6o t 1 q, b6o t 2 q, b6o t 3 q, b6o t 4 q]
      obtain ⟨p1, p2, p3, p4⟩ := hT t t0 (by omega)
      exact ⟨HO_cg h0 h1 p1, p2, p3, by omega⟩
  · rw [e3]
    refine IvO_free hO3 (fun x x0 x1 x2 => ?_) h13
    have q : x ≠ h := fun z => by rw [z, b3h] at x2; omega
    rw [b3o x 0 q] at x2
    exact ⟨x2, b3o x 1 q, b3o x 2 q, dis_of hO3 ⟨x0, x1⟩ hh x2 ho q⟩
  · rw [e4]
    by_cases hd : S 5 0 6 = 0
    · refine IvO_add hO6 n1 n2 (fun x x0 x1 x2 => ?_) (fun x x0 x1 _ => (hT x x0 x1).1.2.1) hHO.2.1 (fun c c0 c1 => by rw [h13, bec_in c0 c1, cif_t hd])
      rw [b6o x 0 (by omega)] at x2
      have dd := dis_w (f := S 3 h 1) (n := S 3 h 2) hO6 ⟨x0, x1⟩ x2 (fun c c0 c1 => by rw [hw1 c c0 c1]; decide)
      exact ⟨x2, b6o x 1 (by omega), b6o x 2 (by omega), dd, fun c c0 c1 => by rw [h13, bec_out (dd c c0 c1)]⟩
    · refine IvO_keep hO6 (fun x x0 x1 x2 => ?_)
      have q : x ≠ S 5 0 4 := fun z => by rw [z, n0, cif_f hd] at x2; omega
      rw [b6o x 0 q] at x2
      have hx : x < S 5 0 4 := by omega
      have dd := dis_w (f := S 3 h 1) (n := S 3 h 2) hO6 ⟨x0, hx⟩ x2 (fun c c0 c1 => by rw [hw1 c c0 c1]; decide)
      exact ⟨hx, x2, b6o x 1 q, b6o x 2 q, fun c c0 c1 => by rw [h13, bec_out (dd c c0 c1)]⟩
  · rw [e3, e4]
    have e := sm_upd (f := fun x => bi (S 3 x 0 = 1)) (g := fun x => bi (buyS S h 3 x 0 = 1)) (k := h) (n := (S 5 0 3).toNat) hh.1 (by omega) (fun i a b c => by rw [b3o i 0 c])
    have e5 : bi (buyS S h 3 h 0 = 1) = 1 := bi_t b3h
    have e6 : bi (S 3 h 0 = 1) = 0 := bi_f (by omega)
    simp only [e5, e6] at e
    omega
/-- a hold ends: x is its new state -/
theorem Inv_endH (hI : Inv m S) {h x : Int} (hh : 0 ≤ h ∧ h < S 5 0 3) (ho : S 3 h 0 = 0) (hx : x = 2 ∨ x = 3) : Inv m (bec (st S 3 h 0 x) (S 3 h 1) (S 3 h 2) 0) := by
  have hHO := HO_h hI hh
  have hI2 := hI
  obtain ⟨⟨a1, a2, a3, a4, a5, a6, a7, a8, a9, a10, a11⟩, hB, hC, hH, hT, hO3, hO6, hN⟩ := hI2
  have b3h : bec (st S 3 h 0 x) (S 3 h 1) (S 3 h 2) 0 3 h 0 = x := by
    show st S 3 h 0 x 3 h 0 = x
    rw [st_eq]
  have b3o : ∀ y s, y ≠ h → bec (st S 3 h 0 x) (S 3 h 1) (S 3 h 2) 0 3 y s = S 3 y s := fun y s q => by
    show st S 3 h 0 x 3 y s = _
    rw [st_nei q]
  have b3s : ∀ y s, s ≠ 0 → bec (st S 3 h 0 x) (S 3 h 1) (S 3 h 2) 0 3 y s = S 3 y s := fun y s q => by
    show st S 3 h 0 x 3 y s = _
    rw [st_nes q]
  have h13 : ∀ c, bec (st S 3 h 0 x) (S 3 h 1) (S 3 h 2) 0 13 0 c = bec S (S 3 h 1) (S 3 h 2) 0 13 0 c := fun _ => rfl
  have hw1 : ∀ c, S 3 h 1 ≤ c → c < S 3 h 1 + S 3 h 2 → S 13 0 c = 1 := (hO3 h hh.1 hh.2 ho).1
  refine ⟨⟨a1, a2, a3, a4, a5, a6, a7, a8, ?_, ?_, ?_⟩, IvB_cg hB (fun _ _ => rfl) rfl, IvC_bec hI (fun _ _ => rfl) rfl rfl (fun _ => rfl) h13 hHO (by omega) (Or.inl rfl), ?_, ?_, ?_, ?_, ?_⟩
  · show 0 ≤ S 5 0 7 ∧ S 5 0 7 ≤ 5000 * m; omega
  · show 0 ≤ S 5 0 8 ∧ S 5 0 8 ≤ 5000 * m; omega
  · show 0 ≤ S 5 0 9 ∧ S 5 0 9 ≤ 20 * m; omega
  · intro y y0 y1
    obtain ⟨p1, p2, p3⟩ := hH y y0 y1
    rw [b3s y 1 (by decide), b3s y 2 (by decide), b3s y 3 (by decide)]
    refine ⟨HO_cg (fun _ _ => rfl) rfl p1, ?_, p3⟩
    by_cases q : y = h
    · rw [q, b3h]; omega
    · rw [b3o y 0 q]; exact p2
  · intro t t0 t1
    obtain ⟨p1, p2, p3, p4⟩ := hT t t0 t1
    exact ⟨HO_cg (fun _ _ => rfl) rfl p1, p2, p3, show 0 ≤ S 6 t 4 ∧ S 6 t 4 ≤ 20 * m by omega⟩
  · refine IvO_free hO3 (fun y y0 y1 y2 => ?_) h13
    have q : y ≠ h := fun z => by rw [z, b3h] at y2; omega
    rw [b3o y 0 q] at y2
    exact ⟨y2, b3o y 1 q, b3o y 2 q, dis_of hO3 ⟨y0, y1⟩ hh y2 ho q⟩
  · exact IvO_free hO6 (fun y y0 y1 y2 => ⟨y2, rfl, rfl, dis_w hO6 ⟨y0, y1⟩ y2 (fun c c0 c1 => by rw [hw1 c c0 c1]; decide)⟩) h13
  · refine Eq.trans (sm_congr (fun k k0 k1 => ?_)) hN
    by_cases q : k = h
    · rw [q, b3h, bi_f (by omega), bi_f (by omega)]
    · rw [b3o k 0 q]
/-- a ticket is no longer valid: x is its new state, v its chairs', d what is paid back -/
theorem Inv_endT (hI : Inv m S) {m' : Int} (hm : m ≤ m') (hm2 : m' ≤ 62000) {t x v d : Int} (ht : 0 ≤ t ∧ t < S 5 0 4) (ho : S 6 t 0 = 0) (hx : x = 1 ∨ x = 2 ∨ x = 3) (hv : v = 0 ∨ v = 3) (hd : 0 ≤ d ∧ d ≤ 5000 * (m' - m)) : Inv m' (bec (st (st S 6 t 0 x) 5 0 8 (S 5 0 8 + d)) (S 6 t 1) (S 6 t 2) v) := by
  have hHO := HO_t hI ht
  have hI2 := hI
  obtain ⟨⟨a1, a2, a3, a4, a5, a6, a7, a8, a9, a10, a11⟩, hB, hC, hH, hT, hO3, hO6, hN⟩ := hI2
  have b3h : bec (st (st S 6 t 0 x) 5 0 8 (S 5 0 8 + d)) (S 6 t 1) (S 6 t 2) v 6 t 0 = x := by
    show st S 6 t 0 x 6 t 0 = x
    rw [st_eq]
  have b3o : ∀ y s, y ≠ t → bec (st (st S 6 t 0 x) 5 0 8 (S 5 0 8 + d)) (S 6 t 1) (S 6 t 2) v 6 y s = S 6 y s := fun y s q => by
    show st S 6 t 0 x 6 y s = _
    rw [st_nei q]
  have b3s : ∀ y s, s ≠ 0 → bec (st (st S 6 t 0 x) 5 0 8 (S 5 0 8 + d)) (S 6 t 1) (S 6 t 2) v 6 y s = S 6 y s := fun y s q => by
    show st S 6 t 0 x 6 y s = _
    rw [st_nes q]
  have h13 : ∀ c, bec (st (st S 6 t 0 x) 5 0 8 (S 5 0 8 + d)) (S 6 t 1) (S 6 t 2) v 13 0 c = bec S (S 6 t 1) (S 6 t 2) v 13 0 c := fun _ => rfl
  have hw1 : ∀ c, S 6 t 1 ≤ c → c < S 6 t 1 + S 6 t 2 → S 13 0 c = 2 := (hO6 t ht.1 ht.2 ho).1
  have hcr := HO_r hI hHO
  have hnk : ∀ c, S 6 t 1 ≤ c → c < S 6 t 1 + S 6 t 2 → ¬ kl S c := fun c c0 c1 z => by
    have := (hC c (by omega) (by omega)).2.2.2 z
    rw [hw1 c c0 c1] at this; omega
  refine ⟨⟨by omega, a2, a3, a4, a5, a6, a7, a8, ?_, ?_, ?_⟩, IvB_cg hB (fun _ _ => rfl) rfl, IvC_bec hI (fun _ _ => rfl) rfl rfl (fun _ => rfl) h13 hHO (by omega) (Or.inr hnk), ?_, ?_, ?_, ?_, hN⟩
  · show 0 ≤ S 5 0 7 ∧ S 5 0 7 ≤ 5000 * m'; omega
  · show 0 ≤ S 5 0 8 + d ∧ S 5 0 8 + d ≤ 5000 * m'; omega
  · show 0 ≤ S 5 0 9 ∧ S 5 0 9 ≤ 20 * m'; omega
  · intro y y0 y1
    obtain ⟨p1, p2, p3⟩ := hH y y0 y1
    exact ⟨HO_cg (fun _ _ => rfl) rfl p1, p2, p3⟩
  · intro y y0 y1
    obtain ⟨p1, p2, p3, p4⟩ := hT y y0 y1
    rw [b3s y 1 (by decide), b3s y 2 (by decide), b3s y 3 (by decide), b3s y 4 (by decide)]
    refine ⟨HO_cg (fun _ _ => rfl) rfl p1, ?_, p3, by omega⟩
    by_cases q : y = t
    · rw [q, b3h]; omega
    · rw [b3o y 0 q]; exact p2
  · exact IvO_free hO3 (fun y y0 y1 y2 => ⟨y2, rfl, rfl, dis_w hO3 ⟨y0, y1⟩ y2 (fun c c0 c1 => by rw [hw1 c c0 c1]; decide)⟩) h13
  · refine IvO_free hO6 (fun y y0 y1 y2 => ?_) h13
    have q : y ≠ t := fun z => by rw [z, b3h] at y2; omega
    rw [b3o y 0 q] at y2
    exact ⟨y2, b3o y 1 q, b3o y 2 q, dis_of hO6 ⟨y0, y1⟩ ht y2 ho q⟩
/-- a number beside: the minute, the doors -/
theorem Inv_sc (hI : Inv m S) {s v : Int} (h : (s = 5 ∧ 0 ≤ v ∧ v ≤ 9999) ∨ (s = 6 ∧ (v = 0 ∨ v = 1))) : Inv m (st S 5 0 s v) := by
  obtain ⟨⟨a1, a2, a3, a4, a5, a6, a7, a8, a9, a10, a11⟩, hB, hC, hH, hT, hO3, hO6, hN⟩ := hI
  have e3 : st S 5 0 s v 5 0 3 = S 5 0 3 := st_nes (by omega)
  have e4 : st S 5 0 s v 5 0 4 = S 5 0 4 := st_nes (by omega)
  have e7 : st S 5 0 s v 5 0 7 = S 5 0 7 := st_nes (by omega)
  have e8 : st S 5 0 s v 5 0 8 = S 5 0 8 := st_nes (by omega)
  have e9 : st S 5 0 s v 5 0 9 = S 5 0 9 := st_nes (by omega)
  refine ⟨⟨a1, a2, a3, a4, by rw [e3]; exact a5, by rw [e4]; exact a6, ?_, ?_, by rw [e7]; exact a9, by rw [e8]; exact a10, by rw [e9]; exact a11⟩, IvB_cg hB (fun _ _ => rfl) rfl, IvC_same hC (fun _ _ => rfl) rfl rfl (fun _ => rfl) (fun _ => rfl), ?_, ?_, ?_, ?_, ?_⟩
  · rcases h with ⟨rfl, h⟩ | ⟨rfl, h⟩
    · rw [st_eq]; exact h
    · rw [st_nes (by decide)]; exact a7
  · rcases h with ⟨rfl, h⟩ | ⟨rfl, h⟩
    · rw [st_nes (by decide)]; exact a8
    · rw [st_eq]; exact h
  · intro x x0 x1
    obtain ⟨p1, p2⟩ := hH x x0 (by rw [← e3]; exact x1)
    exact ⟨HO_cg (fun _ _ => rfl) rfl p1, p2⟩
  · intro x x0 x1
    obtain ⟨p1, p2⟩ := hT x x0 (by rw [← e4]; exact x1)
    exact ⟨HO_cg (fun _ _ => rfl) rfl p1, p2⟩
  · rw [e3]; exact hO3
  · rw [e4]; exact hO6
  · rw [e3, e4]; exact hN
theorem fin_or : ∀ a, a < 16 → ∀ s, s < 4 → (decide (0 ≤ orI (a : Nat) (shlI 1 (s : Nat))) && decide (orI (a : Nat) (shlI 1 (s : Nat)) < 16)) = true := by decide +kernel
theorem fin_an : ∀ a, a < 16 → ∀ s, s < 4 → (decide (0 ≤ andI (a : Nat) (xorI (shlI 1 (s : Nat)) (-1))) && decide (andI (a : Nat) (xorI (shlI 1 (s : Nat)) (-1)) < 16)) = true := by decide +kernel
theorem fin_kl : ∀ a, a < 16 → ∀ u, u < 16 → ∀ s, s < 4 → (decide (andI (a : Nat) (orI (u : Nat) (shlI 1 (s : Nat))) = 0) || (!decide (andI (a : Nat) (u : Nat) = 0) || !decide (andI (a : Nat) (shlI 1 (s : Nat)) = 0))) = true := by decide +kernel
theorem fin_kn : ∀ a, a < 16 → ∀ u, u < 16 → ∀ s, s < 4 → (andI (a : Nat) (andI (u : Nat) (xorI (shlI 1 (s : Nat)) (-1))) ≠ 0 → andI (a : Nat) (u : Nat) ≠ 0) := by decide +kernel
theorem fin_kp : ∀ a, a < 16 → ∀ u, u < 16 → ∀ s, s < 4 → (decide (andI (shrI (u : Nat) (s : Nat)) 1 = 1) || (decide (andI (orI (a : Nat) (shlI 1 (s : Nat))) (u : Nat) = 0) || !decide (andI (a : Nat) (u : Nat) = 0))) = true := by decide +kernel
theorem k_or {a s : Int} (ha : 0 ≤ a ∧ a < 16) (hs : 0 ≤ s ∧ s < 4) : 0 ≤ orI a (shlI 1 s) ∧ orI a (shlI 1 s) < 16 := by
  obtain ⟨a, rfl⟩ := Int.eq_ofNat_of_zero_le ha.1
  obtain ⟨s, rfl⟩ := Int.eq_ofNat_of_zero_le hs.1
  have := fin_or a (by omega) s (by omega)
  simp only [Bool.and_eq_true, decide_eq_true_eq] at this
  exact this
theorem b_an {a s : Int} (ha : 0 ≤ a ∧ a < 16) (hs : 0 ≤ s ∧ s < 4) : 0 ≤ andI a (xorI (shlI 1 s) (-1)) ∧ andI a (xorI (shlI 1 s) (-1)) < 16 := by
  obtain ⟨a, rfl⟩ := Int.eq_ofNat_of_zero_le ha.1
  obtain ⟨s, rfl⟩ := Int.eq_ofNat_of_zero_le hs.1
  have := fin_an a (by omega) s (by omega)
  simp only [Bool.and_eq_true, decide_eq_true_eq] at this
  exact this
theorem b_kl {a u s : Int} (ha : 0 ≤ a ∧ a < 16) (hu : 0 ≤ u ∧ u < 16) (hs : 0 ≤ s ∧ s < 4) (h : andI a (orI u (shlI 1 s)) ≠ 0) : andI a u ≠ 0 ∨ andI a (shlI 1 s) ≠ 0 := by
  obtain ⟨a, rfl⟩ := Int.eq_ofNat_of_zero_le ha.1
  obtain ⟨s, rfl⟩ := Int.eq_ofNat_of_zero_le hs.1
  obtain ⟨u, rfl⟩ := Int.eq_ofNat_of_zero_le hu.1
  have := fin_kl a (by omega) u (by omega) s (by omega)
  simp only [Bool.or_eq_true, Bool.not_eq_true', decide_eq_true_eq, decide_eq_false_iff_not] at this
  exact this.resolve_left h
theorem b_kn {a u s : Int} (ha : 0 ≤ a ∧ a < 16) (hu : 0 ≤ u ∧ u < 16) (hs : 0 ≤ s ∧ s < 4) (h : andI a (andI u (xorI (shlI 1 s) (-1))) ≠ 0) : andI a u ≠ 0 := by
  obtain ⟨a, rfl⟩ := Int.eq_ofNat_of_zero_le ha.1
  obtain ⟨s, rfl⟩ := Int.eq_ofNat_of_zero_le hs.1
  obtain ⟨u, rfl⟩ := Int.eq_ofNat_of_zero_le hu.1
  exact fin_kn a (by omega) u (by omega) s (by omega) h
theorem b_kp {a u s : Int} (ha : 0 ≤ a ∧ a < 16) (hu : 0 ≤ u ∧ u < 16) (hs : 0 ≤ s ∧ s < 4) (hn : ¬ andI (shrI u s) 1 = 1) (h : andI (orI a (shlI 1 s)) u ≠ 0) : andI a u ≠ 0 := by
  obtain ⟨a, rfl⟩ := Int.eq_ofNat_of_zero_le ha.1
  obtain ⟨s, rfl⟩ := Int.eq_ofNat_of_zero_le hs.1
  obtain ⟨u, rfl⟩ := Int.eq_ofNat_of_zero_le hu.1
  have := fin_kp a (by omega) u (by omega) s (by omega)
  simp only [Bool.or_eq_true, Bool.not_eq_true', decide_eq_true_eq, decide_eq_false_iff_not] at this
  exact (this.resolve_left hn).resolve_left h
/-- other stages are up: what is killed then is free -/
theorem Inv_stg (hI : Inv m S) {v : Int} (hv : 0 ≤ v ∧ v < 16) (hk : ∀ c, 0 ≤ c → c < 600 → andI (S 14 0 c) v ≠ 0 → S 13 0 c = 0) : Inv m (st S 1 0 5 v) := by
  obtain ⟨⟨a1, a2, a3, a4, a5, a6, a7, a8, a9, a10, a11⟩, hB, hC, hH, hT, hO3, hO6, hN⟩ := hI
  refine ⟨⟨a1, a2, a3, by rw [st_eq]; exact hv, a5, a6, a7, a8, a9, a10, a11⟩, IvB_cg hB (fun _ _ => rfl) rfl, ?_, ?_, ?_, hO3, hO6, hN⟩
  · intro c c0 c1
    obtain ⟨p1, p2, p3, p4⟩ := hC c c0 c1
    refine ⟨p1, p2, fun z => p3 (fun y => z ((isCh_cg (fun _ _ => rfl) rfl c).mpr y)), fun z => hk c c0 c1 ?_⟩
    have e : st S 1 0 5 v 1 0 5 = v := st_eq
    unfold kl at z
    rw [e] at z
    exact z
  · intro x x0 x1
    obtain ⟨p1, p2⟩ := hH x x0 x1
    exact ⟨HO_cg (fun _ _ => rfl) rfl p1, p2⟩
  · intro x x0 x1
    obtain ⟨p1, p2⟩ := hT x x0 x1
    exact ⟨HO_cg (fun _ _ => rfl) rfl p1, p2⟩
theorem Inv_piece (hI : Inv m S) {s f t : Int} (hs : 0 ≤ s ∧ s < S 1 0 4) (hp : isPc S f t) (hu : ¬ upP S s) : Inv m (pcS S s f t) := by
  have hI2 := hI
  obtain ⟨⟨a1, a2, a3, a4, a5, a6, a7, a8, a9, a10, a11⟩, hB, hC, hH, hT, hO3, hO6, hN⟩ := hI2
  have ho : ∀ K i c, K ≠ 14 → pcS S s f t K i c = S K i c := fun K i c q => cif_f (fun z => q z.1)
  have h0 : ∀ b w', pcS S s f t 0 b w' = S 0 b w' := fun _ _ => ho _ _ _ (by decide)
  have o1 : ∀ i c, pcS S s f t 1 i c = S 1 i c := fun _ _ => ho _ _ _ (by decide)
  have o3 : ∀ i c, pcS S s f t 3 i c = S 3 i c := fun _ _ => ho _ _ _ (by decide)
  have o5 : ∀ i c, pcS S s f t 5 i c = S 5 i c := fun _ _ => ho _ _ _ (by decide)
  have o6 : ∀ i c, pcS S s f t 6 i c = S 6 i c := fun _ _ => ho _ _ _ (by decide)
  have o13 : ∀ i c, pcS S s f t 13 i c = S 13 i c := fun _ _ => ho _ _ _ (by decide)
  have hcf := isCh_r hI hp.1
  have hct := isCh_r hI hp.2.1
  obtain ⟨⟨pf0, pf1, pf2, pf3⟩, ⟨pt0, pt1, pt2, pt3⟩, pe, pr, pc⟩ := hp
  have hin : ∀ c, pcI f t c → isCh S c := fun c z => by
    obtain ⟨z1, z2, z3, z4⟩ := z
    have e1 : c / 100 = f / 100 := by omega
    unfold isCh
    rw [e1]
    refine ⟨by omega, pf1, ?_, ?_⟩
    · rw [← pe] at pt2; omega
    · rw [← pe] at pt3; omega
  have in14 : ∀ c, pcI f t c → pcS S s f t 14 0 c = orI (S 14 0 c) (shlI 1 s) := fun c z => cif_t ⟨rfl, rfl, z⟩
  have out14 : ∀ c, ¬ pcI f t c → pcS S s f t 14 0 c = S 14 0 c := fun c z => cif_f (fun y => z y.2.2)
  refine ⟨⟨a1, by rw [o1]; exact a2, by rw [o1]; exact a3, by rw [o1]; exact a4, by rw [o5]; exact a5, by rw [o5]; exact a6, by rw [o5]; exact a7, by rw [o5]; exact a8, by rw [o5]; exact a9, by rw [o5]; exact a10, by rw [o5]; exact a11⟩, IvB_cg hB h0 (o1 _ _), ?_, ?_, ?_, ?_, ?_, ?_⟩
  · intro c c0 c1
    obtain ⟨p1, p2, p3, p4⟩ := hC c c0 c1
    rw [o13, isCh_cg h0 (o1 _ _)]
    by_cases z : pcI f t c
    · rw [in14 c z]
      refine ⟨p1, k_or p2 (by omega), fun y => absurd (hin c z) y, fun y => p4 ?_⟩
      unfold kl at y ⊢
      rw [in14 c z, o1] at y
      exact b_kp p2 a4 (by omega) hu y
    · rw [out14 c z]
      refine ⟨p1, p2, p3, fun y => p4 ?_⟩
      unfold kl at y ⊢
      rw [out14 c z, o1] at y
      exact y
  · intro x x0 x1
    rw [o5] at x1
    obtain ⟨p1, p2⟩ := hH x x0 x1
    rw [o3, o3, o3, o3]
    exact ⟨HO_cg h0 (o1 _ _) p1, p2⟩
  · intro x x0 x1
    rw [o5] at x1
    obtain ⟨p1, p2⟩ := hT x x0 x1
    rw [o6, o6, o6, o6, o6]
    exact ⟨HO_cg h0 (o1 _ _) p1, p2⟩
  · rw [o5]
    exact IvO_keep hO3 (fun x x0 x1 x2 => by rw [o3] at x2; exact ⟨x1, x2, o3 _ _, o3 _ _, fun c _ _ => o13 _ _⟩)
  · rw [o5]
    exact IvO_keep hO6 (fun x x0 x1 x2 => by rw [o6] at x2; exact ⟨x1, x2, o6 _ _, o6 _ _, fun c _ _ => o13 _ _⟩)
  · rw [o5, o5, ← hN]
    exact sm_congr (fun k k0 k1 => by rw [o3])
theorem Inv_stage (hI : Inv m S) (h : S 1 0 4 < 4) : Inv m (st S 1 0 4 (S 1 0 4 + 1)) := by
  obtain ⟨⟨a1, a2, a3, a4, a5, a6, a7, a8, a9, a10, a11⟩, hB, hC, hH, hT, hO3, hO6, hN⟩ := hI
  refine ⟨⟨a1, a2, by rw [st_eq]; omega, a4, a5, a6, a7, a8, a9, a10, a11⟩, IvB_cg hB (fun _ _ => rfl) rfl, IvC_same hC (fun _ _ => rfl) rfl rfl (fun _ => rfl) (fun _ => rfl), ?_, ?_, hO3, hO6, hN⟩
  · intro x x0 x1
    obtain ⟨p1, p2⟩ := hH x x0 x1
    exact ⟨HO_cg (fun _ _ => rfl) rfl p1, p2⟩
  · intro x x0 x1
    obtain ⟨p1, p2⟩ := hT x x0 x1
    exact ⟨HO_cg (fun _ _ => rfl) rfl p1, p2⟩
theorem Inv_block (hI : Inv m S) {x y z : Int} (hx : 1 ≤ x ∧ x ≤ 6) (hy : 1 ≤ y ∧ y ≤ 10) (hz : 1 ≤ z ∧ z ≤ 500) (h : S 1 0 3 < 6) : Inv m (blkS S x y z) := by
  have hI2 := hI
  obtain ⟨⟨a1, a2, a3, a4, a5, a6, a7, a8, a9, a10, a11⟩, hB, hC, hH, hT, hO3, hO6, hN⟩ := hI2
  have e3 : blkS S x y z 1 0 3 = S 1 0 3 + 1 := rfl
  have b0 : ∀ b w, blkS S x y z 0 b w = st (st (st S 0 (S 1 0 3) 0 x) 0 (S 1 0 3) 1 y) 0 (S 1 0 3) 2 z 0 b w := fun _ _ => rfl
  have bo : ∀ b w, b ≠ S 1 0 3 → blkS S x y z 0 b w = S 0 b w := fun b w q => by rw [b0, st_nei q, st_nei q, st_nei q]
  have n0 : blkS S x y z 0 (S 1 0 3) 0 = x := by rw [b0, st_nes (by decide), st_nes (by decide), st_eq]
  have n1 : blkS S x y z 0 (S 1 0 3) 1 = y := by rw [b0, st_nes (by decide), st_eq]
  have n2 : blkS S x y z 0 (S 1 0 3) 2 = z := by rw [b0, st_eq]
  have hHO : ∀ f n, HO S f n → HO (blkS S x y z) f n := fun f n q => by
    obtain ⟨q0, q1, q2, q3, q4, q5⟩ := q
    unfold HO
    rw [e3, bo _ _ (by omega), bo _ _ (by omega)]
    exact ⟨q0, q1, q2, by omega, q4, q5⟩
  refine ⟨⟨a1, by rw [e3]; omega, a3, a4, a5, a6, a7, a8, a9, a10, a11⟩, ?_, ?_, ?_, ?_, hO3, hO6, hN⟩
  · intro b b0 b1
    rw [e3] at b1
    by_cases q : b = S 1 0 3
    · subst q; rw [n0, n1, n2]; exact ⟨hx, hy, hz⟩
    · rw [bo b 0 q, bo b 1 q, bo b 2 q]; exact hB b b0 (by omega)
  · intro c c0 c1
    obtain ⟨p1, p2, p3, p4⟩ := hC c c0 c1
    refine ⟨p1, p2, fun w => p3 (fun v => w ?_), fun w => p4 w⟩
    obtain ⟨v0, v1, v2, v3⟩ := v
    unfold isCh
    rw [e3, bo _ _ (by omega), bo _ _ (by omega)]
    exact ⟨v0, by omega, v2, v3⟩
  · intro u u0 u1
    obtain ⟨p1, p2⟩ := hH u u0 u1
    exact ⟨hHO _ _ p1, p2⟩
  · intro u u0 u1
    obtain ⟨p1, p2⟩ := hT u u0 u1
    exact ⟨hHO _ _ p1, p2⟩
theorem Inv_up (hI : Inv m S) {s : Int} (hs : 0 ≤ s ∧ s < S 1 0 4) (hn : ¬ ∃ c : Int, 0 ≤ c ∧ c < 600 ∧ andI (S 14 0 c) (shlI 1 s) ≠ 0 ∧ S 13 0 c ≠ 0) : Inv m (upS S s) := by
  have h4 := hI.1.2.2.1
  have hu := hI.1.2.2.2.1
  refine Inv_stg hI (k_or hu (by omega)) (fun c c0 c1 h => ?_)
  have p := hI.2.2.1 c c0 c1
  rcases b_kl p.2.1 hu (by omega) h with k | k
  · exact p.2.2.2 k
  · exact Classical.byContradiction (fun z => hn ⟨c, c0, c1, k, z⟩)
theorem Inv_dn (hI : Inv m S) {s : Int} (hs : 0 ≤ s ∧ s < S 1 0 4) : Inv m (dnS S s) := by
  have h4 := hI.1.2.2.1
  have hu := hI.1.2.2.2.1
  refine Inv_stg hI (b_an hu (by omega)) (fun c c0 c1 h => ?_)
  have p := hI.2.2.1 c c0 c1
  exact p.2.2.2 (b_kn p.2.1 hu (by omega) h)
theorem Inv_ex (hI : Inv m S) (mt : Int) : ∀ n : Nat, (n : Int) ≤ S 5 0 3 → Inv m (exN S mt n) := by
  intro n
  induction n with
  | zero => intro _; exact hI
  | succ n ih =>
    intro hn
    have ih := ih (by omega)
    rw [exN]
    by_cases q : S 3 n 0 = 0 ∧ S 3 n 3 ≤ mt
    · rw [cif_t q]
      have e : ∀ s, exN S mt n 3 n s = S 3 n s := fun s => exN_o _ _ _ _ (by decide) (fun _ => Int.le_refl _)
      have e3 : exN S mt n 5 0 3 = S 5 0 3 := exN_o _ _ _ _ (by decide) (fun z => by cases z)
      have := Inv_endH ih (h := n) (x := 3) ⟨by omega, by rw [e3]; omega⟩ (by rw [e]; exact q.1) (Or.inr rfl)
      rw [e, e] at this
      exact this
    · rw [cif_f q]; exact ih
theorem Inv_no (hI : Inv m S) : ∀ n : Nat, (n : Int) ≤ S 5 0 4 → Inv m (noN S n) := by
  intro n
  induction n with
  | zero => intro _; exact hI
  | succ n ih =>
    intro hn
    have ih := ih (by omega)
    rw [noN]
    by_cases q : S 6 n 0 = 0
    · rw [cif_t q]
      have e : ∀ s, noN S n 6 n s = S 6 n s := fun s => noN_o _ _ _ _ (by decide) (fun _ => Int.le_refl _)
      have e3 : noN S n 5 0 4 = S 5 0 4 := noN_o _ _ _ _ (by decide) (fun z => by cases z)
      have := Inv_endT ih (m' := m) (Int.le_refl _) ih.1.1.2 (t := n) (x := 3) (v := 0) (d := 0) ⟨by omega, by rw [e3]; omega⟩ (by rw [e]; exact q) (Or.inr (Or.inr rfl)) (Or.inl rfl) (by omega)
      rw [e, e] at this
      have e8 : st (st (noN S n) 6 n 0 3) 5 0 8 (noN S n 5 0 8 + 0) = st (noN S n) 6 n 0 3 := by
        funext K i s
        by_cases h : K = 5 ∧ i = 0 ∧ s = 8
        · obtain ⟨rfl, rfl, rfl⟩ := h
          rw [st_eq, Int.add_zero]; rfl
        · exact if_neg h
      rw [e8] at this
      exact this
    · rw [cif_f q]; exact ih
end
