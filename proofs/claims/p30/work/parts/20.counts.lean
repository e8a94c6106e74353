/-! 20: counts: over all codes, over the chairs of a block; ranks and groups -/
section
variable {m : Int} {S : Sl}
theorem ctR_sub {P Q R : Int → Prop} {row : Int} {n : Nat} (h : ∀ c, 0 ≤ c → c < (n : Int) → bi (P (row + c)) = bi (Q (row + c)) + bi (R (row + c))) : ctR P row n = ctR Q row n + ctR R row n := by
  unfold ctR
  rw [← sm_add]
  exact sm_congr h
theorem ct_sub (hI : Inv m S) {P Q R : Int → Prop} {b : Int} (hb : 0 ≤ b ∧ b < S 1 0 3) (h : ∀ c, isCh S c → bi (P c) = bi (Q c) + bi (R c)) : ct S b P = ct S b Q + ct S b R := by
  have q := hI.2.1 b hb.1 hb.2
  unfold ct
  rw [← sm_add]
  exact sm_congr (fun r r0 r1 => ctR_sub (fun c c0 c1 => h _ (isCh_mk hb.1 hb.2 r0 (by omega) (by omega) c0 (by omega) (by omega))))
theorem ct_cg (hI : Inv m S) {P Q : Int → Prop} {b : Int} (hb : 0 ≤ b ∧ b < S 1 0 3) (h : ∀ c, isCh S c → (P c ↔ Q c)) : ct S b P = ct S b Q := by
  have q := hI.2.1 b hb.1 hb.2
  unfold ct
  exact sm_congr (fun r r0 r1 => sm_congr (fun c c0 c1 => bi_iff (h _ (isCh_mk hb.1 hb.2 r0 (by omega) (by omega) c0 (by omega) (by omega)))))
theorem ctA_cg (hI : Inv m S) {P Q : Int → Prop} (h : ∀ c, isCh S c → (P c ↔ Q c)) : ctA S P = ctA S Q :=
  sm_congr (fun b b0 b1 => ct_cg hI ⟨b0, by omega⟩ h)
theorem sm_one : ∀ n : Nat, sm (fun _ => 1) n = n := by
  intro n
  induction n with
  | zero => rfl
  | succ n ih => rw [sm, ih]; omega
theorem sm_cst (k : Int) : ∀ n : Nat, sm (fun _ => k) n = n * k := by
  intro n
  induction n with
  | zero => rw [sm]; simp
  | succ n ih => rw [sm, ih, show ((n + 1 : Nat) : Int) = (n : Int) + 1 from rfl, Int.add_mul, Int.one_mul]
theorem ct_all (hI : Inv m S) {P : Int → Prop} {b : Int} (hb : 0 ≤ b ∧ b < S 1 0 3) (h : ∀ c, P c) : ct S b P = S 0 b 0 * S 0 b 1 := by
  have q := hI.2.1 b hb.1 hb.2
  unfold ct
  have e : ∀ r : Int, ctR P (100 * b + 10 * r) (S 0 b 1).toNat = S 0 b 1 := fun r => by
    unfold ctR
    rw [sm_congr (f := fun c => bi (P (100 * b + 10 * r + c))) (g := fun _ => 1) (fun k _ _ => bi_t (h _)), sm_one]
    omega
  rw [sm_congr (f := fun r => ctR P (100 * b + 10 * r) (S 0 b 1).toNat) (g := fun _ => S 0 b 1) (fun k _ _ => e k), sm_cst, show ((S 0 b 0).toNat : Int) = S 0 b 0 by omega]
theorem wh_r (hI : Inv m S) {c : Int} (h : isCh S c) : 0 ≤ S 13 0 c ∧ S 13 0 c ≤ 3 := (hI.2.2.1 c (isCh_r hI h).1 (isCh_r hI h).2.1).1
theorem st_r (hI : Inv m S) {c : Int} (h0 : 0 ≤ c) (h1 : c < 600) : 0 ≤ S 14 0 c ∧ S 14 0 c < 16 := (hI.2.2.1 c h0 h1).2.1
theorem isN_iff (hI : Inv m S) {c : Int} (h : isCh S c) : (isN S c = 1 ↔ S 13 0 c = 0 ∧ kl S c) ∧ (isN S c = 2 ↔ S 13 0 c = 1) ∧ (isN S c = 3 ↔ S 13 0 c = 2) ∧ (isN S c = 4 ↔ S 13 0 c = 3) ∧ (isN S c = 5 ↔ fr S c) := by
  have w := wh_r hI h
  by_cases h0 : 0 < S 13 0 c
  · rw [isN_1 h0]
    refine ⟨⟨fun z => by omega, fun z => by omega⟩, by omega, by omega, by omega, ⟨fun z => by omega, fun z => by have := z.2.1; omega⟩⟩
  · have e : S 13 0 c = 0 := by omega
    by_cases hk : kl S c
    · rw [isN_2 h0 hk]
      exact ⟨⟨fun _ => ⟨e, hk⟩, fun _ => rfl⟩, by omega, by omega, by omega, ⟨fun z => by omega, fun z => absurd hk z.2.2⟩⟩
    · rw [isN_3 h0 hk]
      exact ⟨⟨fun z => by omega, fun z => absurd z.2 hk⟩, by omega, by omega, by omega, ⟨fun _ => ⟨h, e, hk⟩, fun _ => rfl⟩⟩
/-- what is told of a block -/
noncomputable def bkF (S : Sl) (b w : Int) : Int := cif ((0 ≤ b ∧ b < S 1 0 3) ∧ (0 ≤ w ∧ w ≤ 8)) (cif (w < 6) (ct S b (fun c => w = 0 ∨ isN S c = w)) (cif (w = 6) (rk S b) (cif (w = 7) (S 0 b 2) (gN S b 10)))) (-1)
theorem bk_0 (hI : Inv m S) {b : Int} (hb : 0 ≤ b ∧ b < S 1 0 3) : S 0 b 0 * S 0 b 1 = ct S b (fun c => (0 : Int) = 0 ∨ isN S c = 0) := (ct_all hI hb (fun _ => Or.inl rfl)).symm
theorem bk_1 (hI : Inv m S) {b : Int} (hb : 0 ≤ b ∧ b < S 1 0 3) : ct S b (fun c => S 13 0 c = 0) - ct S b (fr S) = ct S b (fun c => (1 : Int) = 0 ∨ isN S c = 1) := by
  have e := ct_sub hI hb (P := fun c => S 13 0 c = 0) (Q := fr S) (R := fun c => (1 : Int) = 0 ∨ isN S c = 1) (fun c hc => by
    have hn := (isN_iff hI hc).1
    by_cases h0 : S 13 0 c = 0
    · by_cases hk : kl S c
      · rw [bi_t h0, bi_f (fun z : fr S c => z.2.2 hk), bi_t (Or.inr (hn.mpr ⟨h0, hk⟩))]; rfl
      · rw [bi_t h0, bi_t (show fr S c from ⟨hc, h0, hk⟩), bO_f (by decide) (fun z => hk (hn.mp z).2)]; rfl
    · rw [bi_f h0, bi_f (fun z : fr S c => h0 z.2.1), bO_f (by decide) (fun z => h0 (hn.mp z).1)]; rfl)
  omega
theorem bk_k (hI : Inv m S) {b k : Int} (hb : 0 ≤ b ∧ b < S 1 0 3) (hk : k = 1 ∨ k = 2 ∨ k = 3) : ct S b (fun c => S 13 0 c = k) = ct S b (fun c => k + 1 = 0 ∨ isN S c = k + 1) :=
  ct_cg hI hb (fun c hc => by
    obtain ⟨-, n2, n3, n4, -⟩ := isN_iff hI hc
    rcases hk with rfl | rfl | rfl
    · exact ⟨fun z => Or.inr (n2.mpr z), fun z => n2.mp (z.resolve_left (by decide))⟩
    · exact ⟨fun z => Or.inr (n3.mpr z), fun z => n3.mp (z.resolve_left (by decide))⟩
    · exact ⟨fun z => Or.inr (n4.mpr z), fun z => n4.mp (z.resolve_left (by decide))⟩)
theorem bk_5 (hI : Inv m S) {b : Int} (hb : 0 ≤ b ∧ b < S 1 0 3) : ct S b (fr S) = ct S b (fun c => (5 : Int) = 0 ∨ isN S c = 5) :=
  ct_cg hI hb (fun c hc => ⟨fun z => Or.inr ((isN_iff hI hc).2.2.2.2.mpr z), fun z => (isN_iff hI hc).2.2.2.2.mp (z.resolve_left (by decide))⟩)
theorem ctA_in (hI : Inv m S) : ctA S (fun c => S 13 0 c = 3) = ctA S (fun c => (4 : Int) = 0 ∨ isN S c = 4) :=
  sm_congr (fun b b0 b1 => bk_k hI (k := 3) ⟨b0, by omega⟩ (Or.inr (Or.inr rfl)))
/-- killed chairs are all free -/
theorem ctA_kl (hI : Inv m S) : sm (fun c => bi (andI (S 14 0 c) (S 1 0 5) ≠ 0)) 600 = ctA S (fun c => (1 : Int) = 0 ∨ isN S c = 1) := by
  rw [S600 hI (P := fun c => andI (S 14 0 c) (S 1 0 5) ≠ 0) (fun c c0 c1 z => by
    by_cases q : isCh S c
    · exact q
    · rw [((hI.2.2.1 c c0 c1).2.2.1 q).2] at z
      exact absurd (show andI 0 (S 1 0 5) = 0 by
        obtain ⟨u, hu⟩ := Int.eq_ofNat_of_zero_le hI.1.2.2.2.1.1
        rw [hu, show (0 : Int) = ((0 : Nat) : Int) from rfl, N_and (by decide), Nat.zero_and]) z)]
  exact ctA_cg hI (fun c hc => by
    have hn := (isN_iff hI hc).1
    have hr := isCh_r hI hc
    exact ⟨fun z => Or.inr (hn.mpr ⟨(hI.2.2.1 c hr.1 hr.2.1).2.2.2 z, z⟩), fun z => (hn.mp (z.resolve_left (by decide))).2⟩)
theorem fin_fo : ∀ a, a < 16 → ∀ s, s < 4 → decide (andI (shrI (a : Nat) (s : Nat)) 1 = 1) = !decide (andI (a : Nat) (shlI 1 (s : Nat)) = 0) := by decide +kernel
theorem fin_nk : ∀ a, a < 16 → ∀ u, u < 16 → ∀ s, s < 4 → decide (andI (a : Nat) (orI (u : Nat) (shlI 1 (s : Nat))) = 0) = (decide (andI (a : Nat) (u : Nat) = 0) && !decide (andI (shrI (a : Nat) (s : Nat)) 1 = 1)) := by decide +kernel
theorem fo_iff (hI : Inv m S) {s c : Int} (hs : 0 ≤ s ∧ s < 4) (h0 : 0 ≤ c) (h1 : c < 600) : fo S s c ↔ andI (S 14 0 c) (shlI 1 s) ≠ 0 := by
  unfold fo
  have hr := st_r hI h0 h1
  obtain ⟨a, ha⟩ := Int.eq_ofNat_of_zero_le hr.1
  obtain ⟨g, rfl⟩ := Int.eq_ofNat_of_zero_le hs.1
  rw [ha]
  have := fin_fo a (by omega) g (by omega)
  constructor
  · intro z y
    rw [decide_eq_true z, decide_eq_true y] at this
    cases this
  · intro z
    by_cases y : andI (shrI (a : Int) (g : Int)) 1 = 1
    · exact y
    · rw [decide_eq_false y, decide_eq_false z] at this
      cases this
theorem fo_ch (hI : Inv m S) {s c : Int} (hs : 0 ≤ s ∧ s < 4) (h0 : 0 ≤ c) (h1 : c < 600) (h : fo S s c) : isCh S c := by
  by_cases q : isCh S c
  · exact q
  · have := (fo_iff hI hs h0 h1).mp h
    rw [((hI.2.2.1 c h0 h1).2.2.1 q).2] at this
    obtain ⟨g, rfl⟩ := Int.eq_ofNat_of_zero_le hs.1
    exact absurd ((by decide +kernel : ∀ g, g < 4 → andI 0 (shlI 1 (g : Nat)) = 0) g (by omega)) this
theorem ctA_fo (hI : Inv m S) {s : Int} (hs : 0 ≤ s ∧ s < 4) : sm (fun c => bi (andI (S 14 0 c) (shlI 1 s) ≠ 0)) 600 = ctA S (fun c => fo S s c) := by
  rw [← S600 hI (P := fun c => fo S s c) (fun c c0 c1 z => fo_ch hI hs c0 c1 z)]
  exact sm_congr (fun c c0 c1 => bi_iff (fo_iff hI hs c0 c1).symm)
theorem ctA_nk (hI : Inv m S) {s : Int} (hs : 0 ≤ s ∧ s < 4) : sm (fun c => bi (andI (S 14 0 c) (orI (S 1 0 5) (shlI 1 s)) ≠ 0)) 600 - sm (fun c => bi (andI (S 14 0 c) (S 1 0 5) ≠ 0)) 600 = ctA S (fun c => fo S s c ∧ ¬ kl S c) := by
  rw [← S600 hI (P := fun c => fo S s c ∧ ¬ kl S c) (fun c c0 c1 z => fo_ch hI hs c0 c1 z.1)]
  have e : sm (fun c => bi (andI (S 14 0 c) (orI (S 1 0 5) (shlI 1 s)) ≠ 0)) 600 = sm (fun c => bi (andI (S 14 0 c) (S 1 0 5) ≠ 0) + bi (fo S s c ∧ ¬ kl S c)) 600 := sm_congr (fun c c0 c1 => by
    have hr := st_r hI c0 c1
    have hu := hI.1.2.2.2.1
    unfold fo kl
    obtain ⟨a, ha⟩ := Int.eq_ofNat_of_zero_le hr.1
    obtain ⟨u, hu2⟩ := Int.eq_ofNat_of_zero_le hu.1
    obtain ⟨g, rfl⟩ := Int.eq_ofNat_of_zero_le hs.1
    rw [ha, hu2]
    have := fin_nk a (by omega) u (by omega) g (by omega)
    by_cases y : andI (a : Int) (u : Int) = 0
    · by_cases w : andI (shrI (a : Int) (g : Int)) 1 = 1
      · rw [decide_eq_true y, decide_eq_true w] at this
        rw [bi_t (fun z => by rw [decide_eq_true z] at this; cases this), bi_f (fun z => z y), bi_t ⟨w, fun z => z y⟩]; rfl
      · rw [decide_eq_true y, decide_eq_false w] at this
        rw [bi_f (fun z => z (by simpa using this)), bi_f (fun z => z y), bi_f (fun z => w z.1)]; rfl
    · rw [decide_eq_false y] at this
      rw [bi_t (fun z => by rw [decide_eq_true z] at this; simp at this), bi_t y, bi_f (fun z => z.2 y)]; rfl)
  rw [e, sm_add]
  omega
theorem ex_tk (hI : Inv m S) {s : Int} (hs : 0 ≤ s ∧ s < 4) : (∃ c : Int, 0 ≤ c ∧ c < 600 ∧ andI (S 14 0 c) (shlI 1 s) ≠ 0 ∧ S 13 0 c ≠ 0) ↔ 0 < ctA S (fun c => fo S s c ∧ ¬ S 13 0 c = 0) := by
  rw [← S600 hI (P := fun c => fo S s c ∧ ¬ S 13 0 c = 0) (fun c c0 c1 z => fo_ch hI hs c0 c1 z.1)]
  constructor
  · rintro ⟨c, c0, c1, h1, h2⟩
    have := sm_pos (f := fun c => bi (fo S s c ∧ ¬ S 13 0 c = 0)) (k := c) (n := 600) (fun k => bi_ge _) c0 (by omega)
    have e : bi (fo S s c ∧ ¬ S 13 0 c = 0) = 1 := bi_t ⟨(fo_iff hI hs c0 c1).mpr h1, h2⟩
    simp only [e] at this
    omega
  · intro h
    refine Classical.byContradiction (fun q => ?_)
    have : sm (fun c => bi (fo S s c ∧ ¬ S 13 0 c = 0)) 600 = 0 := sm_zero (fun c c0 c1 => bi_f (fun z => q ⟨c, c0, by omega, (fo_iff hI hs c0 (by omega)).mp z.1, z.2⟩))
    omega
end
