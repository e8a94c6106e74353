/-! 22: upgrades: what a placing rests on; groups that fit; moves; chains -/
theorem opn_cg {S S' : Sl} (h0 : ∀ b w, S' 0 b w = S 0 b w) (h1 : S' 1 0 3 = S 1 0 3) (h5 : S' 1 0 5 = S 1 0 5) (h14 : ∀ c, S' 14 0 c = S 14 0 c) {b r : Int} (hr : 0 ≤ r ∧ r < 10) (h13 : ∀ c, c / 100 = b → S' 13 0 c = S 13 0 c) : opn S' (100 * b + 10 * r) = opn S (100 * b + 10 * r) := by
  funext c
  by_cases q : 0 ≤ c ∧ c ≤ 9
  · unfold opn
    rw [isCh_cg h0 h1, kl_cg h5 h14, h13 _ (by omega)]
  · exact propext ⟨fun z => absurd z.1 q, fun z => absurd z.1 q⟩
theorem plC_cg {S S' : Sl} {row n : Int} (h : opn S' row = opn S row) (p : Int × Int) : ∀ k, plC S' row n p k = plC S row n p k := by
  intro k
  induction k with
  | zero => rfl
  | succ k ih =>
    have e1 : are S' row k n = are S row k n := by unfold are; rw [h]
    have e2 : la S' row k n = la S row k n := by unfold la; rw [h]
    rw [plC, plC, ih, e1, e2]
theorem pl_cg {S S' : Sl} (h0 : ∀ b w, S' 0 b w = S 0 b w) (h1 : S' 1 0 3 = S 1 0 3) (h5 : S' 1 0 5 = S 1 0 5) (h14 : ∀ c, S' 14 0 c = S 14 0 c) {b n : Int} (hb : S 0 b 0 ≤ 10) (h13 : ∀ c, c / 100 = b → S' 13 0 c = S 13 0 c) : pl S' b n = pl S b n := by
  have key : ∀ k : Nat, (k : Int) ≤ 10 → plR S' b n 3 k = plR S b n 3 k := by
    intro k
    induction k with
    | zero => intro _; rfl
    | succ k ih =>
      intro hk
      rw [plR, plR, ih (by omega), h0, plC_cg (opn_cg h0 h1 h5 h14 ⟨by omega, by omega⟩ h13)]
  unfold pl
  rw [h0]
  by_cases q : 0 ≤ S 0 b 0
  · rw [key _ (by omega)]
  · rw [show (S 0 b 0).toNat = 0 by omega]; rfl
theorem rk_cg {S S' : Sl} (h0 : ∀ b w, S' 0 b w = S 0 b w) (h1 : S' 1 0 3 = S 1 0 3) (b : Int) : rk S' b = rk S b := by
  unfold rk
  rw [h1, h0]
  exact sm_congr (fun k _ _ => by rw [h0])
section
variable {m : Int} {S : Sl}
theorem pl_free (hI : Inv m S) {f n b k : Int} (hf : HO S f n) (hb : 0 ≤ b ∧ b < S 1 0 3) (hne : b ≠ f / 100) : pl (bec S f n 0) b k = pl S b k := by
  have q := hI.2.1 b hb.1 hb.2
  refine pl_cg (S := S) (S' := bec S f n 0) (fun _ _ => rfl) rfl rfl (fun _ => rfl) (by omega) (fun c hc => bec_out (fun z => hne ?_))
  have q2 := HO_r hI hf
  obtain ⟨f0, f1, f2, f3, f4, f5⟩ := hf
  have q3 := hI.2.1 (f / 100) (by omega) f3
  omega
/-- a group fits: somewhere in the block so many chairs are open -/
theorem plC_fnd {row n : Int} (hr : 0 ≤ row) {p : Int × Int} (hp : p.1 ≠ -9 ∨ p.2 = 3) : ∀ k : Nat, ((plC S row n p k).1 ≠ -9 ∨ (plC S row n p k).2 = 3) ∧ (p.1 ≠ -9 → (plC S row n p k).1 ≠ -9) ∧ (∀ c : Nat, c < k → are S row c n → (plC S row n p k).1 ≠ -9) := by
  intro k
  induction k with
  | zero => exact ⟨hp, id, fun c h => by omega⟩
  | succ k ih =>
    rw [plC]
    have hl := la_2 S row k n
    by_cases h : are S row k n ∧ la S row k n < (plC S row n p k).2
    · rw [cif_t h]
      have : row + (k : Int) ≠ -9 := by omega
      exact ⟨Or.inl this, fun _ => this, fun _ _ _ => this⟩
    · rw [cif_f h]
      refine ⟨ih.1, ih.2.1, fun c hc ha => ?_⟩
      by_cases q : c = k
      · subst q
        rcases ih.1 with z | z
        · exact z
        · exact absurd ⟨ha, by omega⟩ h
      · exact ih.2.2 c (by omega) ha
theorem plR_fnd {b n : Int} (hb : 0 ≤ b) : ∀ k : Nat, ((plR S b n 3 k).1 ≠ -9 ∨ (plR S b n 3 k).2 = 3) ∧ ∀ r c : Nat, r < k → (c : Int) < S 0 b 1 → are S (100 * b + 10 * r) c n → (plR S b n 3 k).1 ≠ -9 := by
  intro k
  induction k with
  | zero => exact ⟨Or.inr rfl, fun r c h => by omega⟩
  | succ k ih =>
    rw [plR]
    have q := plC_fnd (S := S) (row := 100 * b + 10 * k) (n := n) (by omega) ih.1 (S 0 b 1).toNat
    refine ⟨q.1, fun r c hr hc ha => ?_⟩
    by_cases z : r = k
    · subst z; exact q.2.2 c (by omega) ha
    · exact q.2.1 (ih.2 r c (by omega) hc ha)
theorem pl_fit (hI : Inv m S) {b n r c : Int} (hb : 0 ≤ b ∧ b < S 1 0 3) (hr : 0 ≤ r ∧ r < S 0 b 0) (hc : 0 ≤ c ∧ c < S 0 b 1) (ha : are S (100 * b + 10 * r) c n) : pl S b n ≠ -9 := by
  obtain ⟨r, rfl⟩ := Int.eq_ofNat_of_zero_le hr.1
  obtain ⟨c, rfl⟩ := Int.eq_ofNat_of_zero_le hc.1
  exact (plR_fnd (S := S) (n := n) hb.1 (S 0 b 0).toNat).2 r c (by omega) hc.2 ha
theorem pl_mono (hI : Inv m S) {b n n' : Int} (hb : 0 ≤ b ∧ b < S 1 0 3) (h : pl S b n ≠ -9) (hn : n' ≤ n) : pl S b n' ≠ -9 := by
  obtain ⟨r, c, hr, hc, -, ha⟩ := pl_pld hI hb h
  exact pl_fit hI hb hr hc (fun k k0 k1 => ha k k0 (by omega))
theorem gN_spec (b : Int) : ∀ k : Nat, (gN S b k = 0 ∨ (1 ≤ gN S b k ∧ gN S b k ≤ k ∧ pl S b (gN S b k) ≠ -9)) ∧ ∀ n : Int, 1 ≤ n → n ≤ k → pl S b n ≠ -9 → n ≤ gN S b k := by
  intro k
  induction k with
  | zero => exact ⟨Or.inl rfl, fun n a b => by omega⟩
  | succ k ih =>
    rw [gN]
    by_cases h : pl S b ((k : Int) + 1) ≠ -9
    · rw [cif_t h]
      exact ⟨Or.inr ⟨by omega, by omega, h⟩, fun n a c _ => by omega⟩
    · rw [cif_f h]
      refine ⟨ih.1.imp id (fun z => ⟨z.1, by omega, z.2.2⟩), fun n a c d => ?_⟩
      by_cases q : n = (k : Int) + 1
      · subst q; exact absurd d h
      · exact ih.2 n a (by omega) d
theorem gN_iff (hI : Inv m S) {b n : Int} (hb : 0 ≤ b ∧ b < S 1 0 3) (hn : 1 ≤ n ∧ n ≤ 10) : n ≤ gN S b 10 ↔ pl S b n ≠ -9 := by
  have q := gN_spec (S := S) b 10
  constructor
  · intro h
    rcases q.1 with z | z
    · omega
    · exact pl_mono hI hb z.2.2 h
  · exact q.2 n hn.1 (by omega)
/-! the first that is such -/
theorem ff_cg {P Q : Int → Prop} : ∀ (n : Nat) (k : Int), (∀ t, k ≤ t → t < k + n → (P t ↔ Q t)) → ff P n k = ff Q n k := by
  intro n
  induction n with
  | zero => intro k _; rfl
  | succ n ih =>
    intro k h
    rw [ff, ff, ih (k + 1) (fun t a b => h t (by omega) (by omega)), propext (h k (Int.le_refl _) (by omega))]
theorem ff_spec {P : Int → Prop} : ∀ (n : Nat) (k : Int), ff P n k = -9 ∨ (P (ff P n k) ∧ k ≤ ff P n k ∧ ff P n k < k + n) := by
  intro n
  induction n with
  | zero => intro k; exact Or.inl rfl
  | succ n ih =>
    intro k
    rw [ff]
    by_cases h : P k
    · rw [cif_t h]; exact Or.inr ⟨h, by omega, by omega⟩
    · rw [cif_f h]
      exact (ih (k + 1)).imp id (fun z => ⟨z.1, by omega, by omega⟩)
/-! a move -/
noncomputable def mvS (S : Sl) (t b : Int) : Sl := st (st (bec (st (bec S (S 6 t 1) (S 6 t 2) 0) 6 t 1 (pl S b (S 6 t 2))) (pl S b (S 6 t 2)) (S 6 t 2) 2) 6 t 4 (S 6 t 4 + 1)) 5 0 9 (S 5 0 9 + 1)
/-- a ticket can be moved to a block -/
def Mv (S : Sl) (b t : Int) : Prop := (0 ≤ t ∧ t < S 5 0 4) ∧ S 6 t 0 = 0 ∧ (0 ≤ b ∧ b < S 1 0 3) ∧ rk S (S 6 t 1 / 100) < rk S b ∧ pl S b (S 6 t 2) ≠ -9
theorem Mv_ne {b t : Int} (h : Mv S b t) : b ≠ S 6 t 1 / 100 := fun z => by
  have := h.2.2.2.1
  rw [← z] at this
  omega
theorem Inv_move (hI : Inv m S) (hm : m + 1 ≤ 62000) {b t : Int} (h : Mv S b t) : Inv (m + 1) (mvS S t b) := by
  have hne := Mv_ne h
  obtain ⟨ht, ho, hb, hr, hp⟩ := h
  have hHO := HO_t hI ht
  have hn : 1 ≤ S 6 t 2 ∧ S 6 t 2 ≤ 10 := ⟨hHO.2.1, hHO.2.2.1⟩
  obtain ⟨pHO, pb, pc⟩ := pl_HO hI hb hn hp
  have q1 := HO_r hI hHO
  have q2 := HO_r hI pHO
  have hI2 := hI
  obtain ⟨⟨a1, a2, a3, a4, a5, a6, a7, a8, a9, a10, a11⟩, hB, hC, hH, hT, hO3, hO6, hN⟩ := hI2
  have hw2 : ∀ c, S 6 t 1 ≤ c → c < S 6 t 1 + S 6 t 2 → S 13 0 c = 2 := (hO6 t ht.1 ht.2 ho).1
  have h13 : ∀ c, mvS S t b 13 0 c = bec (bec S (S 6 t 1) (S 6 t 2) 0) (pl S b (S 6 t 2)) (S 6 t 2) 2 13 0 c := fun _ => rfl
  have h13n : ∀ c, pl S b (S 6 t 2) ≤ c → c < pl S b (S 6 t 2) + S 6 t 2 → mvS S t b 13 0 c = 2 := fun c c0 c1 => by rw [h13, bec_in c0 c1]
  have h13o : ∀ c, ¬ (pl S b (S 6 t 2) ≤ c ∧ c < pl S b (S 6 t 2) + S 6 t 2) → S 6 t 1 ≤ c → c < S 6 t 1 + S 6 t 2 → mvS S t b 13 0 c = 0 := fun c z c0 c1 => by rw [h13, bec_out z, bec_in c0 c1]
  have h13s : ∀ c, ¬ (pl S b (S 6 t 2) ≤ c ∧ c < pl S b (S 6 t 2) + S 6 t 2) → ¬ (S 6 t 1 ≤ c ∧ c < S 6 t 1 + S 6 t 2) → mvS S t b 13 0 c = S 13 0 c := fun c z y => by rw [h13, bec_out z, bec_out y]
  have e9 : mvS S t b 5 0 9 = S 5 0 9 + 1 := st_eq
  have b6 : ∀ x s, mvS S t b 6 x s = st (st S 6 t 1 (pl S b (S 6 t 2))) 6 t 4 (S 6 t 4 + 1) 6 x s := fun _ _ => rfl
  have b6o : ∀ x s, x ≠ t → mvS S t b 6 x s = S 6 x s := fun x s q => by rw [b6, st_nei q, st_nei q]
  have n0 : mvS S t b 6 t 0 = 0 := by rw [b6, st_nes (by decide), st_nes (by decide)]; exact ho
  have n1 : mvS S t b 6 t 1 = pl S b (S 6 t 2) := by rw [b6, st_nes (by decide), st_eq]
  have n2 : mvS S t b 6 t 2 = S 6 t 2 := by rw [b6, st_nes (by decide), st_nes (by decide)]
  have n3 : mvS S t b 6 t 3 = S 6 t 3 := by rw [b6, st_nes (by decide), st_nes (by decide)]
  have n4 : mvS S t b 6 t 4 = S 6 t 4 + 1 := by rw [b6, st_eq]
  have g0 : ∀ b' w, mvS S t b 0 b' w = S 0 b' w := fun _ _ => rfl
  have g1 : mvS S t b 1 0 3 = S 1 0 3 := rfl
  refine ⟨⟨by omega, a2, a3, a4, a5, a6, a7, a8, ?_, ?_, by rw [e9]; omega⟩, IvB_cg hB g0 g1, ?_, ?_, ?_, ?_, ?_, hN⟩
  · show 0 ≤ S 5 0 7 ∧ S 5 0 7 ≤ 5000 * (m + 1); omega
  · show 0 ≤ S 5 0 8 ∧ S 5 0 8 ≤ 5000 * (m + 1); omega
  · intro c c0 c1
    obtain ⟨p1, p2, p3, p4⟩ := hC c c0 c1
    rw [isCh_cg g0 g1, kl_cg (S' := mvS S t b) (S := S) rfl (fun _ => rfl), show mvS S t b 14 0 c = S 14 0 c from rfl]
    by_cases z : pl S b (S 6 t 2) ≤ c ∧ c < pl S b (S 6 t 2) + S 6 t 2
    · rw [h13n c z.1 z.2]
      exact ⟨by omega, p2, fun y => absurd (HO_ch hI pHO z.1 z.2) y, fun y => absurd y (pc c z.1 z.2).2⟩
    · by_cases y : S 6 t 1 ≤ c ∧ c < S 6 t 1 + S 6 t 2
      · rw [h13o c z y.1 y.2]
        exact ⟨by omega, p2, fun x => absurd (HO_ch hI hHO y.1 y.2) x, fun _ => rfl⟩
      · rw [h13s c z y]; exact ⟨p1, p2, p3, p4⟩
  · intro x x0 x1
    obtain ⟨p1, p2⟩ := hH x x0 x1
    exact ⟨HO_cg g0 g1 p1, p2⟩
  · intro x x0 x1
    by_cases q : x = t
    · subst q
      obtain ⟨p1, p2, p3, p4⟩ := hT x x0 x1
      rw [n0, n1, n2, n3, n4]
      exact ⟨HO_cg g0 g1 pHO, by omega, p3, by omega⟩
    · rw [b6o x 0 q, b6o x 1 q, b6o x 2 q, b6o x 3 q, b6o x 4 q]
      obtain ⟨p1, p2, p3, p4⟩ := hT x x0 x1
      exact ⟨HO_cg g0 g1 p1, p2, p3, by omega⟩
  · refine IvO_keep hO3 (fun x x0 x1 x2 => ⟨x1, x2, rfl, rfl, fun c c0 c1 => ?_⟩)
    exact h13s c (dis_w (f := pl S b (S 6 t 2)) (n := S 6 t 2) hO3 ⟨x0, x1⟩ x2 (fun c c0 c1 => by rw [(pc c c0 c1).1]; decide) c c0 c1) (dis_w (f := S 6 t 1) (n := S 6 t 2) hO3 ⟨x0, x1⟩ x2 (fun c c0 c1 => by rw [hw2 c c0 c1]; decide) c c0 c1)
  · intro x x0 x1 x2
    have oth : ∀ y, 0 ≤ y → y < S 5 0 4 → y ≠ t → S 6 y 0 = 0 → (∀ c, S 6 y 1 ≤ c → c < S 6 y 1 + S 6 y 2 → ¬ (pl S b (S 6 t 2) ≤ c ∧ c < pl S b (S 6 t 2) + S 6 t 2)) ∧ (∀ c, S 6 y 1 ≤ c → c < S 6 y 1 + S 6 y 2 → mvS S t b 13 0 c = 2) := fun y y0 y1 y2 y3 => by
      have d1 := dis_w (f := pl S b (S 6 t 2)) (n := S 6 t 2) hO6 ⟨y0, y1⟩ y3 (fun c c0 c1 => by rw [(pc c c0 c1).1]; decide)
      have d2 := dis_of hO6 ⟨y0, y1⟩ ht y3 ho y2
      exact ⟨d1, fun c c0 c1 => by rw [h13s c (d1 c c0 c1) (d2 c c0 c1)]; exact (hO6 y y0 y1 y3).1 c c0 c1⟩
    have sep : ∀ y, 0 ≤ y → y < S 5 0 4 → y ≠ t → S 6 y 0 = 0 → S 6 y 1 + S 6 y 2 ≤ pl S b (S 6 t 2) ∨ pl S b (S 6 t 2) + S 6 t 2 ≤ S 6 y 1 := fun y y0 y1 y2 y3 => by
      have o1 := (oth y y0 y1 y2 y3).1
      have yn := (hT y y0 y1).1.2.1
      rcases Int.lt_or_le (S 6 y 1) (pl S b (S 6 t 2)) with z | z
      · rcases Int.lt_or_le (pl S b (S 6 t 2)) (S 6 y 1 + S 6 y 2) with w | w
        · exact absurd ⟨Int.le_refl _, by omega⟩ (o1 (pl S b (S 6 t 2)) (by omega) w)
        · exact Or.inl w
      · rcases Int.lt_or_le (S 6 y 1) (pl S b (S 6 t 2) + S 6 t 2) with w | w
        · exact absurd ⟨z, w⟩ (o1 (S 6 y 1) (Int.le_refl _) (by omega))
        · exact Or.inr w
    by_cases q : x = t
    · rw [q, n1, n2]
      refine ⟨h13n, fun y y0 y1 y2 y3 => ?_⟩
      rw [b6o y 0 y3] at y2
      rw [b6o y 1 y3, b6o y 2 y3]
      exact (sep y y0 y1 y3 y2).symm
    · rw [b6o x 0 q] at x2
      rw [b6o x 1 q, b6o x 2 q]
      refine ⟨(oth x x0 x1 q x2).2, fun y y0 y1 y2 y3 => ?_⟩
      by_cases q2 : y = t
      · rw [q2, n1, n2]; exact sep x x0 x1 q x2
      · rw [b6o y 0 q2] at y2
        rw [b6o y 1 q2, b6o y 2 q2]
        exact (hO6 x x0 x1 x2).2 y y0 y1 y2 y3
/-! chains -/
noncomputable def nm (S : Sl) (b : Int) : Int := ff (fun t => S 6 t 0 = 0 ∧ rk S (S 6 t 1 / 100) < rk S b ∧ pl S b (S 6 t 2) ≠ -9) (S 5 0 4).toNat 0
theorem nm_Mv {b : Int} (hT : 0 ≤ S 5 0 4) (hb : 0 ≤ b ∧ b < S 1 0 3) : nm S b = -9 ∨ Mv S b (nm S b) := by
  rcases ff_spec (P := fun t => S 6 t 0 = 0 ∧ rk S (S 6 t 1 / 100) < rk S b ∧ pl S b (S 6 t 2) ≠ -9) (S 5 0 4).toNat 0 with h | ⟨h1, h2, h3⟩
  · exact Or.inl h
  · exact Or.inr ⟨⟨h2, by unfold nm; omega⟩, h1.1, hb, h1.2.1, h1.2.2⟩
noncomputable def chn (S : Sl) (b t : Int) : Nat → Int × Sl
  | 0 => (0, S)
  | k + 1 => cif (t = -9) (0, S) ((chn (mvS S t b) (S 6 t 1 / 100) (nm (mvS S t b) (S 6 t 1 / 100)) k).1 + 1, (chn (mvS S t b) (S 6 t 1 / 100) (nm (mvS S t b) (S 6 t 1 / 100)) k).2)
theorem chn_9 {b : Int} (k : Nat) : chn S b (-9) k = (0, S) := by
  cases k with
  | zero => rfl
  | succ k => rw [chn, cif_t rfl]
theorem upF_Mv (hI : Inv m S) {t : Int} (ht : 0 ≤ t ∧ t < S 5 0 4) (ho : S 6 t 0 = 0) : upF S (S 6 t 1 / 100) (S 6 t 2) (S 1 0 3).toNat = -9 ∨ Mv S (upF S (S 6 t 1 / 100) (S 6 t 2) (S 1 0 3).toNat) t := by
  have hi := hI.1.2.1
  have key : ∀ k : Nat, (k : Int) ≤ S 1 0 3 → upF S (S 6 t 1 / 100) (S 6 t 2) k = -9 ∨ Mv S (upF S (S 6 t 1 / 100) (S 6 t 2) k) t := by
    intro k
    induction k with
    | zero => intro _; exact Or.inl rfl
    | succ k ih =>
      intro hk
      rw [upF]
      by_cases h : (rk S (S 6 t 1 / 100) < rk S k ∧ pl S k (S 6 t 2) ≠ -9) ∧ (upF S (S 6 t 1 / 100) (S 6 t 2) k = -9 ∨ rk S (upF S (S 6 t 1 / 100) (S 6 t 2) k) < rk S k)
      · rw [cif_t h]; exact Or.inr ⟨ht, ho, ⟨by omega, by omega⟩, h.1.1, h.1.2⟩
      · rw [cif_f h]; exact ih (by omega)
  exact key _ (by omega)
noncomputable def opChain (S : Sl) (t : Int) : Int × Sl := cif (S 6 t 0 ≠ 0) (0, S) (cif (upF S (S 6 t 1 / 100) (S 6 t 2) (S 1 0 3).toNat = -9) (0, S) (chn S (upF S (S 6 t 1 / 100) (S 6 t 2) (S 1 0 3).toNat) t 20))
noncomputable def opUpg (S : Sl) (t : Int) : Int × Sl := cif (¬ (0 ≤ t ∧ t < S 5 0 4)) (-1, S) (cif ((opChain S t).1 = 0) (-2, (opChain S t).2) (opChain S t))
end
