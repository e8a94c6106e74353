/-! 62: the law: where a group comes -/
theorem are_cnt {S : Sl} {row c : Int} : ∀ n : Nat, sm (fun k => bi (opn S row (c + k))) n = n ↔ are S row c n := by
  intro n
  induction n with
  | zero => exact ⟨fun _ i a b => by omega, fun _ => rfl⟩
  | succ n ih =>
    have b1 := smb_bnd (fun k => opn S row (c + k)) n
    constructor
    · intro h i a b
      rw [sm] at h
      have b2 := bi_le (opn S row (c + (n : Int)))
      by_cases q : i = n
      · rw [q]; exact bi_eq1.mp (by omega)
      · exact (ih.mp (by omega)) i a (by omega)
    · intro h
      rw [sm, ih.mpr (fun i a b => h i a (by omega)), bi_t (h n (by omega) (by omega))]
      rfl
def cdt (S : Sl) (b n r c : Int) : Prop := (0 ≤ r ∧ r < S 0 b 0) ∧ (0 ≤ c ∧ c < S 0 b 1) ∧ are S (100 * b + 10 * r) c n
def bst (S : Sl) (b n : Int) (p : Int × Int) (e : Int) : Prop := (p = (-9, 3) ∧ ∀ r c, cdt S b n r c → 10 * r + c < e → False) ∨ ∃ r c, cdt S b n r c ∧ 10 * r + c < e ∧ p = (100 * b + 10 * r + c, la S (100 * b + 10 * r) c n) ∧ ∀ r' c', cdt S b n r' c' → 10 * r' + c' < e → la S (100 * b + 10 * r) c n < la S (100 * b + 10 * r') c' n ∨ (la S (100 * b + 10 * r) c n = la S (100 * b + 10 * r') c' n ∧ 10 * r + c ≤ 10 * r' + c')
theorem bst_C {S : Sl} {b n r : Int} (hC : S 0 b 1 ≤ 10) (hr : 0 ≤ r ∧ r < S 0 b 0) {p : Int × Int} (h : bst S b n p (10 * r)) : ∀ k : Nat, (k : Int) ≤ S 0 b 1 → bst S b n (plC S (100 * b + 10 * r) n p k) (10 * r + k) := by
  intro k
  induction k with
  | zero => intro _; rw [show (10 * r + ((0 : Nat) : Int)) = 10 * r by omega]; exact h
  | succ k ih =>
    intro hk
    have h0 := ih (by omega)
    have only : ∀ r' c', cdt S b n r' c' → 10 * r' + c' < 10 * r + ((k + 1 : Nat) : Int) → 10 * r' + c' < 10 * r + (k : Int) ∨ (r' = r ∧ c' = k) := fun r' c' z y => by
      have z1 := z.1
      have z2 := z.2.1
      omega
    rw [plC]
    by_cases q : are S (100 * b + 10 * r) k n ∧ la S (100 * b + 10 * r) k n < (plC S (100 * b + 10 * r) n p k).2
    · rw [cif_t q]
      refine Or.inr ⟨r, k, ⟨hr, ⟨by omega, by omega⟩, q.1⟩, by omega, rfl, fun r' c' z y => ?_⟩
      rcases only r' c' z y with y | ⟨y1, y2⟩
      · rcases h0 with ⟨_, e2⟩ | ⟨r0, c0, _, _, e2, e3⟩
        · exact (e2 r' c' z y).elim
        · have := e3 r' c' z y
          have q2 := q.2
          rw [e2] at q2
          simp only at q2
          omega
      · rw [y1, y2]; exact Or.inr ⟨rfl, Int.le_refl _⟩
    · rw [cif_f q]
      rcases h0 with ⟨e1, e2⟩ | ⟨r0, c0, e1, e0, e2, e3⟩
      · refine Or.inl ⟨e1, fun r' c' z y => ?_⟩
        rcases only r' c' z y with y | ⟨y1, y2⟩
        · exact e2 r' c' z y
        · rw [y1, y2] at z
          refine q ⟨z.2.2, ?_⟩
          rw [e1]
          have := la_2 S (100 * b + 10 * r) (k : Int) n
          show _ < (3 : Int)
          omega
      · refine Or.inr ⟨r0, c0, e1, by omega, e2, fun r' c' z y => ?_⟩
        rcases only r' c' z y with y | ⟨y1, y2⟩
        · exact e3 r' c' z y
        · rw [y1, y2] at z ⊢
          have q2 : ¬ la S (100 * b + 10 * r) (k : Int) n < la S (100 * b + 10 * r0) c0 n := fun w => q ⟨z.2.2, by rw [e2]; exact w⟩
          omega
theorem bst_R {S : Sl} {b n : Int} (hC : 0 ≤ S 0 b 1 ∧ S 0 b 1 ≤ 10) : ∀ k : Nat, (k : Int) ≤ S 0 b 0 → bst S b n (plR S b n 3 k) (10 * k) := by
  intro k
  induction k with
  | zero => intro _; exact Or.inl ⟨rfl, fun r c z y => by have z1 := z.1; have z2 := z.2.1; omega⟩
  | succ k ih =>
    intro hk
    have h0 := bst_C (n := n) hC.2 (r := (k : Int)) ⟨by omega, by omega⟩ (ih (by omega)) (S 0 b 1).toNat (by omega)
    rw [plR]
    have up : ∀ r' c', cdt S b n r' c' → 10 * r' + c' < 10 * ((k + 1 : Nat) : Int) → 10 * r' + c' < 10 * (k : Int) + ((S 0 b 1).toNat : Int) := fun r' c' z y => by
      have z1 := z.1
      have z2 := z.2.1
      by_cases w : r' = k
      · rw [w]; omega
      · omega
    rcases h0 with ⟨e1, e2⟩ | ⟨r0, c0, e1, e0, e2, e3⟩
    · exact Or.inl ⟨e1, fun r' c' z y => e2 r' c' z (up r' c' z y)⟩
    · exact Or.inr ⟨r0, c0, e1, by omega, e2, fun r' c' z y => e3 r' c' z (up r' c' z y)⟩
section
variable {m : Int} {S : Sl}
theorem pl_bst (hI : Inv m S) {b : Int} (n : Int) (hb : 0 ≤ b ∧ b < S 1 0 3) : bst S b n (plR S b n 3 (S 0 b 0).toNat) (10 * S 0 b 0) := by
  have q := hI.2.1 b hb.1 hb.2
  have h := bst_R (S := S) (b := b) (n := n) (by omega) (S 0 b 0).toNat (by omega)
  rwa [Int.toNat_of_nonneg (by omega)] at h
theorem pl_no (hI : Inv m S) {b n : Int} (hb : 0 ≤ b ∧ b < S 1 0 3) (h : ∀ r c, cdt S b n r c → False) : pl S b n = -9 := by
  unfold pl
  rcases pl_bst hI n hb with ⟨e1, _⟩ | ⟨r0, c0, e1, _⟩
  · rw [e1]
  · exact (h _ _ e1).elim
theorem pl_is (hI : Inv m S) {b n r c : Int} (hb : 0 ≤ b ∧ b < S 1 0 3) (h : cdt S b n r c) (hm : ∀ r' c', cdt S b n r' c' → la S (100 * b + 10 * r) c n < la S (100 * b + 10 * r') c' n ∨ (la S (100 * b + 10 * r) c n = la S (100 * b + 10 * r') c' n ∧ 10 * r + c ≤ 10 * r' + c')) : pl S b n = 100 * b + 10 * r + c := by
  have q := hI.2.1 b hb.1 hb.2
  have h1 := h.1
  have h2 := h.2.1
  unfold pl
  rcases pl_bst hI n hb with ⟨_, e2⟩ | ⟨r0, c0, e1, e0, e2, e3⟩
  · exact (e2 r c h (by omega)).elim
  · rw [e2]
    have a := hm r0 c0 e1
    have b := e3 r c h (by omega)
    show 100 * _ + 10 * r0 + c0 = _
    omega
end
section
variable {X : XI}
set_option maxRecDepth 4440 in
theorem l_place {m : Int} {M : NM} {S : Sl} (hW : LW m M S) {b n : Int} (h1 : 0 ≤ b ∧ b < S 1 0 3) (h2 : 1 ≤ n ∧ n ≤ 10) : HT X z_L_place [.inr (.inr (some (17, 9, 0))), .inr (.inr (some (18, 9, 0))), .inr (.inr (some (19, 9, 0))), .inl b, .inl n] M (fun rr MM => rr = some (.inl (pl S b n)) ∧ MM = M) := by
  have hi := hW.2.1.1
  unfold Iv0 at hi
  have hB := hW.2.2
  have hb3 := hB.1
  have hb := hW.2.1.2.1 b h1.1 h1.2
  have hbb := hB.2.2.2.2 b h1.1 h1.2
  refine ht_of (e := E_L_place) rfl (?_ : EvI X E_L_place (0, [some (.inr (.inr (some (17, 9, 0)))), some (.inr (.inr (some (18, 9, 0)))), some (.inr (.inr (some (19, 9, 0)))), some (.inl b), some (.inl n), none, none, none, none, none], [], M) _)
  refine seg_ok 2 (?_ : EvI X E_L_place (3, [some (.inr (.inr (some (17, 9, 0)))), some (.inr (.inr (some (18, 9, 0)))), some (.inr (.inr (some (19, 9, 0)))), some (.inl b), some (.inl n), some (.inl 0), none, none, none, none], [], M) _)
  have L3 : ∀ (m3 : Nat) (alone : Int) (d3_6 d3_7 d3_8 d3_9 : Option U), 3 - alone < (m3 : Int) → (0 ≤ alone) → (alone ≤ 3) → (∀ r c, cdt S b n r c → alone ≤ la S (100 * b + 10 * r) c n) → EvI X E_L_place (3, [some (.inr (.inr (some (17, 9, 0)))), some (.inr (.inr (some (18, 9, 0)))), some (.inr (.inr (some (19, 9, 0)))), some (.inl b), some (.inl n), some (.inl alone), d3_6, d3_7, d3_8, d3_9], [], M) (fun rr MM => rr = some (.inl (pl S b n)) ∧ MM = M) := by
    intro m3
    induction m3 with
    | zero => intro alone d3_6 d3_7 d3_8 d3_9 hm3 q1 q2 q3; exact absurd hm3 (by omega)
    | succ m3 ih3 =>
      intro alone d3_6 d3_7 d3_8 d3_9 hm3 q1 q2 q3
      refine seg_ok 3 (?_ : EvI X E_L_place (if alone < 3 then 9 else 217, [some (.inr (.inr (some (17, 9, 0)))), some (.inr (.inr (some (18, 9, 0)))), some (.inr (.inr (some (19, 9, 0)))), some (.inl b), some (.inl n), some (.inl alone), d3_6, d3_7, d3_8, d3_9], [], M) _)
      refine ev_if (fun h6 => ?_) (fun h6 => ?_)
      · refine seg_ok 2 (?_ : EvI X E_L_place (12, [some (.inr (.inr (some (17, 9, 0)))), some (.inr (.inr (some (18, 9, 0)))), some (.inr (.inr (some (19, 9, 0)))), some (.inl b), some (.inl n), some (.inl alone), some (.inl 0), d3_7, d3_8, d3_9], [], M) _)
        have L12 : ∀ (m12 : Nat) (row : Int) (d12_7 d12_8 d12_9 : Option U), S 0 b 0 - row < (m12 : Int) → (0 ≤ row) → (row ≤ S 0 b 0) → (∀ r c, cdt S b n r c → la S (100 * b + 10 * r) c n = alone → 10 * row ≤ 10 * r + c) → EvI X E_L_place (12, [some (.inr (.inr (some (17, 9, 0)))), some (.inr (.inr (some (18, 9, 0)))), some (.inr (.inr (some (19, 9, 0)))), some (.inl b), some (.inl n), some (.inl alone), some (.inl row), d12_7, d12_8, d12_9], [], M) (fun rr MM => rr = some (.inl (pl S b n)) ∧ MM = M) := by
          intro m12
          induction m12 with
          | zero => intro row d12_7 d12_8 d12_9 hm12 p1 p2 p3; exact absurd hm12 (by omega)
          | succ m12 ih12 =>
            intro row d12_7 d12_8 d12_9 hm12 p1 p2 p3
            refine seg_ok 6 (⟨by omega, by omega, ?_⟩ : ((-2147483648 : Int) ≤ (3 * b) ∧ (3 * b) < 2147483648) ∧ ((0 : Int) ≤ (3 * b) ∧ ((3 * b) : Int) < 9) ∧ EvI X E_L_place (19, [some (.inr (.inr (some (17, 9, 0)))), some (.inr (.inr (some (18, 9, 0)))), some (.inr (.inr (some (19, 9, 0)))), some (.inl b), some (.inl n), some (.inl alone), some (.inl row), d12_7, d12_8, d12_9], [.inl (M 18 9 0 (3 * b)), .inl row], M) _)
            rw [show (M 18 9 0 (3 * b)) = (S 0 b 0) from rl_blk0 (hW.1) (by omega)]
            refine seg_ok 1 (?_ : EvI X E_L_place (if row < (S 0 b 0) then 22 else 211, [some (.inr (.inr (some (17, 9, 0)))), some (.inr (.inr (some (18, 9, 0)))), some (.inr (.inr (some (19, 9, 0)))), some (.inl b), some (.inl n), some (.inl alone), some (.inl row), d12_7, d12_8, d12_9], [], M) _)
            refine ev_if (fun h19 => ?_) (fun h19 => ?_)
            · refine seg_ok 2 (?_ : EvI X E_L_place (25, [some (.inr (.inr (some (17, 9, 0)))), some (.inr (.inr (some (18, 9, 0)))), some (.inr (.inr (some (19, 9, 0)))), some (.inl b), some (.inl n), some (.inl alone), some (.inl row), some (.inl 0), d12_8, d12_9], [], M) _)
              have L25 : ∀ (m25 : Nat) (chair : Int) (d25_8 d25_9 : Option U), 8 - chair < (m25 : Int) → (0 ≤ chair) → (chair ≤ 7) → (∀ r c, cdt S b n r c → la S (100 * b + 10 * r) c n = alone → 10 * row + chair ≤ 10 * r + c) → EvI X E_L_place (25, [some (.inr (.inr (some (17, 9, 0)))), some (.inr (.inr (some (18, 9, 0)))), some (.inr (.inr (some (19, 9, 0)))), some (.inl b), some (.inl n), some (.inl alone), some (.inl row), some (.inl chair), d25_8, d25_9], [], M) (fun rr MM => rr = some (.inl (pl S b n)) ∧ MM = M) := by
                intro m25
                induction m25 with
                | zero => intro chair d25_8 d25_9 hm25 w1 w2 w3; exact absurd hm25 (by omega)
                | succ m25 ih25 =>
                  intro chair d25_8 d25_9 hm25 w1 w2 w3
                  refine seg_ok 10 (⟨by omega, by omega, by omega, by omega, ?_⟩ : ((-2147483648 : Int) ≤ (chair + n) ∧ (chair + n) < 2147483648) ∧ ((-2147483648 : Int) ≤ (3 * b) ∧ (3 * b) < 2147483648) ∧ ((-2147483648 : Int) ≤ ((3 * b) + 1) ∧ ((3 * b) + 1) < 2147483648) ∧ ((0 : Int) ≤ ((3 * b) + 1) ∧ (((3 * b) + 1) : Int) < 9) ∧ EvI X E_L_place (37, [some (.inr (.inr (some (17, 9, 0)))), some (.inr (.inr (some (18, 9, 0)))), some (.inr (.inr (some (19, 9, 0)))), some (.inl b), some (.inl n), some (.inl alone), some (.inl row), some (.inl chair), d25_8, d25_9], [.inl (M 18 9 0 ((3 * b) + 1)), .inl (chair + n)], M) _)
                  rw [show (M 18 9 0 ((3 * b) + 1)) = (S 0 b 1) from rl_blk (hW.1) (by omega) (by omega)]
                  refine seg_ok 1 (?_ : EvI X E_L_place (if (S 0 b 1) < (chair + n) then 205 else 40, [some (.inr (.inr (some (17, 9, 0)))), some (.inr (.inr (some (18, 9, 0)))), some (.inr (.inr (some (19, 9, 0)))), some (.inl b), some (.inl n), some (.inl alone), some (.inl row), some (.inl chair), d25_8, d25_9], [], M) _)
                  refine ev_if (fun h37 => ?_) (fun h37 => ?_)
                  · refine seg_ok 2 (⟨by omega, ?_⟩ : ((-2147483648 : Int) ≤ (row + 1) ∧ (row + 1) < 2147483648) ∧ EvI X E_L_place (12, [some (.inr (.inr (some (17, 9, 0)))), some (.inr (.inr (some (18, 9, 0)))), some (.inr (.inr (some (19, 9, 0)))), some (.inl b), some (.inl n), some (.inl alone), some (.inl (row + 1)), some (.inl chair), d25_8, d25_9], [], M) _)
                    refine ih12 (row + 1) (some (.inl chair)) d25_8 d25_9 (by omega) (by omega) (by omega) (fun r c z y => by have z1 := z.1; have z2 := z.2.1; have w4 := w3 r c z y; by_cases e : r = row; (have z4 := (opn_lt h1.1 (by omega) (by omega) (z.2.2 (n - 1) (by omega) (by omega))); omega); omega)
                  · refine seg_ok 4 (?_ : EvI X E_L_place (46, [some (.inr (.inr (some (17, 9, 0)))), some (.inr (.inr (some (18, 9, 0)))), some (.inr (.inr (some (19, 9, 0)))), some (.inl b), some (.inl n), some (.inl alone), some (.inl row), some (.inl chair), some (.inl 0), some (.inl 0)], [], M) _)
                    have L46 : ∀ (m46 : Nat) (cnt k : Int), n - k < (m46 : Int) → (0 ≤ k) → (k ≤ n) → (cnt = sm (fun k => bi (opn S (100 * b + 10 * row) (chair + k))) k.toNat) → EvI X E_L_place (46, [some (.inr (.inr (some (17, 9, 0)))), some (.inr (.inr (some (18, 9, 0)))), some (.inr (.inr (some (19, 9, 0)))), some (.inl b), some (.inl n), some (.inl alone), some (.inl row), some (.inl chair), some (.inl cnt), some (.inl k)], [], M) (fun rr MM => rr = some (.inl (pl S b n)) ∧ MM = M) := by
                      intro m46
                      induction m46 with
                      | zero => intro cnt k hm46 v1 v2 v3; exact absurd hm46 (by omega)
                      | succ m46 ih46 =>
                        intro cnt k hm46 v1 v2 v3
                        subst v3
                        have v4 := smb_bnd (fun k => opn S (100 * b + 10 * row) (chair + k)) k.toNat
                        refine seg_ok 3 (?_ : EvI X E_L_place (if k < n then 53 else 86, [some (.inr (.inr (some (17, 9, 0)))), some (.inr (.inr (some (18, 9, 0)))), some (.inr (.inr (some (19, 9, 0)))), some (.inl b), some (.inl n), some (.inl alone), some (.inl row), some (.inl chair), some (.inl (sm (fun k => bi (opn S (100 * b + 10 * row) (chair + k))) k.toNat)), some (.inl k)], [], M) _)
                        refine ev_if (fun h50 => ?_) (fun h50 => ?_)
                        · refine seg_ok 9 (⟨by omega, ?_⟩ : ((-2147483648 : Int) ≤ (chair + k) ∧ (chair + k) < 2147483648) ∧ EvI X E_L_place (66, [some (.inr (.inr (some (17, 9, 0)))), some (.inr (.inr (some (18, 9, 0)))), some (.inr (.inr (some (19, 9, 0)))), some (.inl b), some (.inl n), some (.inl alone), some (.inl row), some (.inl chair), some (.inl (sm (fun k => bi (opn S (100 * b + 10 * row) (chair + k))) k.toNat)), some (.inl k)], [.inl (chair + k), .inl row, .inl b, .inr (.inr (some (19, 9, 0))), .inr (.inr (some (18, 9, 0))), .inr (.inr (some (17, 9, 0))), .inl (sm (fun k => bi (opn S (100 * b + 10 * row) (chair + k))) k.toNat)], M) _)
                          refine ev_clp (v := .inl (bi (opn S (100 * b + 10 * row) (chair + k)))) (z := z_L_isOpen) (as := [.inr (.inr (some (17, 9, 0))), .inr (.inr (some (18, 9, 0))), .inr (.inr (some (19, 9, 0))), .inl b, .inl row, .inl (chair + k)]) (rest := [.inl (sm (fun k => bi (opn S (100 * b + 10 * row) (chair + k))) k.toNat)]) rfl (l_isOpen hW (by omega) (by omega)) (?_ : EvI X E_L_place (69, [some (.inr (.inr (some (17, 9, 0)))), some (.inr (.inr (some (18, 9, 0)))), some (.inr (.inr (some (19, 9, 0)))), some (.inl b), some (.inl n), some (.inl alone), some (.inl row), some (.inl chair), some (.inl (sm (fun k => bi (opn S (100 * b + 10 * row) (chair + k))) k.toNat)), some (.inl k)], [.inl (bi (opn S (100 * b + 10 * row) (chair + k))), .inl (sm (fun k => bi (opn S (100 * b + 10 * row) (chair + k))) k.toNat)], M) _)
                          refine seg_ok 1 (?_ : EvI X E_L_place (if (bi (opn S (100 * b + 10 * row) (chair + k))) = 0 then 76 else 72, [some (.inr (.inr (some (17, 9, 0)))), some (.inr (.inr (some (18, 9, 0)))), some (.inr (.inr (some (19, 9, 0)))), some (.inl b), some (.inl n), some (.inl alone), some (.inl row), some (.inl chair), some (.inl (sm (fun k => bi (opn S (100 * b + 10 * row) (chair + k))) k.toNat)), some (.inl k)], [.inl (sm (fun k => bi (opn S (100 * b + 10 * row) (chair + k))) k.toNat)], M) _)
                          refine ev_ifb (fun h69 => ?_) (fun h69 => ?_)
                          · refine seg_ok 5 (⟨by omega, by omega, ?_⟩ : ((-2147483648 : Int) ≤ ((sm (fun k => bi (opn S (100 * b + 10 * row) (chair + k))) k.toNat) + 0) ∧ ((sm (fun k => bi (opn S (100 * b + 10 * row) (chair + k))) k.toNat) + 0) < 2147483648) ∧ ((-2147483648 : Int) ≤ (k + 1) ∧ (k + 1) < 2147483648) ∧ EvI X E_L_place (46, [some (.inr (.inr (some (17, 9, 0)))), some (.inr (.inr (some (18, 9, 0)))), some (.inr (.inr (some (19, 9, 0)))), some (.inl b), some (.inl n), some (.inl alone), some (.inl row), some (.inl chair), some (.inl ((sm (fun k => bi (opn S (100 * b + 10 * row) (chair + k))) k.toNat) + 0)), some (.inl (k + 1))], [], M) _)
                            refine ih46 ((sm (fun k => bi (opn S (100 * b + 10 * row) (chair + k))) k.toNat) + 0) (k + 1) (by omega) (by omega) (by omega) (by rw [sm_step v1]; exact acc0 (is0 h69))
                          · refine seg_ok 6 (⟨by omega, by omega, ?_⟩ : ((-2147483648 : Int) ≤ ((sm (fun k => bi (opn S (100 * b + 10 * row) (chair + k))) k.toNat) + 1) ∧ ((sm (fun k => bi (opn S (100 * b + 10 * row) (chair + k))) k.toNat) + 1) < 2147483648) ∧ ((-2147483648 : Int) ≤ (k + 1) ∧ (k + 1) < 2147483648) ∧ EvI X E_L_place (46, [some (.inr (.inr (some (17, 9, 0)))), some (.inr (.inr (some (18, 9, 0)))), some (.inr (.inr (some (19, 9, 0)))), some (.inl b), some (.inl n), some (.inl alone), some (.inl row), some (.inl chair), some (.inl ((sm (fun k => bi (opn S (100 * b + 10 * row) (chair + k))) k.toNat) + 1)), some (.inl (k + 1))], [], M) _)
                            refine ih46 ((sm (fun k => bi (opn S (100 * b + 10 * row) (chair + k))) k.toNat) + 1) (k + 1) (by omega) (by omega) (by omega) (by rw [sm_step v1]; exact acc0 (is1 h69))
                        · have hk : k = n := by omega
                          have hcnt : sm (fun k => bi (opn S (100 * b + 10 * row) (chair + k))) k.toNat = n ↔ are S (100 * b + 10 * row) chair n := by
                            have q := are_cnt (S := S) (row := (100 * b + 10 * row)) (c := chair) n.toNat
                            rw [Int.toNat_of_nonneg (by omega)] at q
                            rw [hk]; exact q
                          refine seg_ok 8 (⟨by omega, ?_⟩ : ((-2147483648 : Int) ≤ (chair - 1) ∧ (chair - 1) < 2147483648) ∧ EvI X E_L_place (96, [some (.inr (.inr (some (17, 9, 0)))), some (.inr (.inr (some (18, 9, 0)))), some (.inr (.inr (some (19, 9, 0)))), some (.inl b), some (.inl n), some (.inl alone), some (.inl row), some (.inl chair), some (.inl (sm (fun k => bi (opn S (100 * b + 10 * row) (chair + k))) k.toNat)), some (.inl k)], [.inl (chair - 1), .inl row, .inl b, .inr (.inr (some (19, 9, 0))), .inr (.inr (some (18, 9, 0))), .inr (.inr (some (17, 9, 0)))], M) _)
                          refine ev_clp (v := .inl (bi (opn S (100 * b + 10 * row) (chair - 1)))) (z := z_L_isOpen) (as := [.inr (.inr (some (17, 9, 0))), .inr (.inr (some (18, 9, 0))), .inr (.inr (some (19, 9, 0))), .inl b, .inl row, .inl (chair - 1)]) (rest := []) rfl (l_isOpen hW (by omega) (by omega)) (?_ : EvI X E_L_place (99, [some (.inr (.inr (some (17, 9, 0)))), some (.inr (.inr (some (18, 9, 0)))), some (.inr (.inr (some (19, 9, 0)))), some (.inl b), some (.inl n), some (.inl alone), some (.inl row), some (.inl chair), some (.inl (sm (fun k => bi (opn S (100 * b + 10 * row) (chair + k))) k.toNat)), some (.inl k)], [.inl (bi (opn S (100 * b + 10 * row) (chair - 1)))], M) _)
                          refine seg_ok 1 (?_ : EvI X E_L_place (if (bi (opn S (100 * b + 10 * row) (chair - 1))) = 0 then 122 else 102, [some (.inr (.inr (some (17, 9, 0)))), some (.inr (.inr (some (18, 9, 0)))), some (.inr (.inr (some (19, 9, 0)))), some (.inl b), some (.inl n), some (.inl alone), some (.inl row), some (.inl chair), some (.inl (sm (fun k => bi (opn S (100 * b + 10 * row) (chair + k))) k.toNat)), some (.inl k)], [], M) _)
                          refine ev_ifb (fun h99 => ?_) (fun h99 => ?_)
                          · refine seg_ok 11 (⟨by omega, ?_⟩ : ((-2147483648 : Int) ≤ (chair + n) ∧ (chair + n) < 2147483648) ∧ EvI X E_L_place (138, [some (.inr (.inr (some (17, 9, 0)))), some (.inr (.inr (some (18, 9, 0)))), some (.inr (.inr (some (19, 9, 0)))), some (.inl b), some (.inl n), some (.inl alone), some (.inl row), some (.inl chair), some (.inl (sm (fun k => bi (opn S (100 * b + 10 * row) (chair + k))) k.toNat)), some (.inl 0)], [.inl (chair + n), .inl row, .inl b, .inr (.inr (some (19, 9, 0))), .inr (.inr (some (18, 9, 0))), .inr (.inr (some (17, 9, 0))), .inl 0], M) _)
                            refine ev_clp (v := .inl (bi (opn S (100 * b + 10 * row) (chair + n)))) (z := z_L_isOpen) (as := [.inr (.inr (some (17, 9, 0))), .inr (.inr (some (18, 9, 0))), .inr (.inr (some (19, 9, 0))), .inl b, .inl row, .inl (chair + n)]) (rest := [.inl 0]) rfl (l_isOpen hW (by omega) (by omega)) (?_ : EvI X E_L_place (141, [some (.inr (.inr (some (17, 9, 0)))), some (.inr (.inr (some (18, 9, 0)))), some (.inr (.inr (some (19, 9, 0)))), some (.inl b), some (.inl n), some (.inl alone), some (.inl row), some (.inl chair), some (.inl (sm (fun k => bi (opn S (100 * b + 10 * row) (chair + k))) k.toNat)), some (.inl 0)], [.inl (bi (opn S (100 * b + 10 * row) (chair + n))), .inl 0], M) _)
                            refine seg_ok 1 (?_ : EvI X E_L_place (if (bi (opn S (100 * b + 10 * row) (chair + n))) = 0 then 167 else 144, [some (.inr (.inr (some (17, 9, 0)))), some (.inr (.inr (some (18, 9, 0)))), some (.inr (.inr (some (19, 9, 0)))), some (.inl b), some (.inl n), some (.inl alone), some (.inl row), some (.inl chair), some (.inl (sm (fun k => bi (opn S (100 * b + 10 * row) (chair + k))) k.toNat)), some (.inl 0)], [.inl 0], M) _)
                            refine ev_ifb (fun h141 => ?_) (fun h141 => ?_)
                            · refine seg_ok 3 (⟨by omega, ?_⟩ : ((-2147483648 : Int) ≤ 0 ∧ (0 : Int) < 2147483648) ∧ EvI X E_L_place (171, [some (.inr (.inr (some (17, 9, 0)))), some (.inr (.inr (some (18, 9, 0)))), some (.inr (.inr (some (19, 9, 0)))), some (.inl b), some (.inl n), some (.inl alone), some (.inl row), some (.inl chair), some (.inl (sm (fun k => bi (opn S (100 * b + 10 * row) (chair + k))) k.toNat)), some (.inl 0)], [], M) _)
                              have hla : la S (100 * b + 10 * row) chair n = 0 := by unfold la; rw [bA_1 h99, bA_1 h141]; rfl
                              refine seg_ok 3 (?_ : EvI X E_L_place (if (sm (fun k => bi (opn S (100 * b + 10 * row) (chair + k))) k.toNat) = n then 178 else 199, [some (.inr (.inr (some (17, 9, 0)))), some (.inr (.inr (some (18, 9, 0)))), some (.inr (.inr (some (19, 9, 0)))), some (.inl b), some (.inl n), some (.inl alone), some (.inl row), some (.inl chair), some (.inl (sm (fun k => bi (opn S (100 * b + 10 * row) (chair + k))) k.toNat)), some (.inl 0)], [], M) _)
                              refine ev_if (fun h175 => ?_) (fun h175 => ?_)
                              · refine seg_ok 3 (?_ : EvI X E_L_place (if 0 = alone then 185 else 199, [some (.inr (.inr (some (17, 9, 0)))), some (.inr (.inr (some (18, 9, 0)))), some (.inr (.inr (some (19, 9, 0)))), some (.inl b), some (.inl n), some (.inl alone), some (.inl row), some (.inl chair), some (.inl (sm (fun k => bi (opn S (100 * b + 10 * row) (chair + k))) k.toNat)), some (.inl 0)], [], M) _)
                                refine ev_if (fun h182 => ?_) (fun h182 => ?_)
                                · refine seg_ok 9 (⟨by omega, by omega, by omega, by omega, ?_⟩ : ((-2147483648 : Int) ≤ (100 * b) ∧ (100 * b) < 2147483648) ∧ ((-2147483648 : Int) ≤ (10 * row) ∧ (10 * row) < 2147483648) ∧ ((-2147483648 : Int) ≤ ((100 * b) + (10 * row)) ∧ ((100 * b) + (10 * row)) < 2147483648) ∧ ((-2147483648 : Int) ≤ (((100 * b) + (10 * row)) + chair) ∧ (((100 * b) + (10 * row)) + chair) < 2147483648) ∧ EvI X E_L_place (198, [some (.inr (.inr (some (17, 9, 0)))), some (.inr (.inr (some (18, 9, 0)))), some (.inr (.inr (some (19, 9, 0)))), some (.inl b), some (.inl n), some (.inl alone), some (.inl row), some (.inl chair), some (.inl (sm (fun k => bi (opn S (100 * b + 10 * row) (chair + k))) k.toNat)), some (.inl 0)], [.inl (((100 * b) + (10 * row)) + chair)], M) _)
                                  refine ev_rt (r := some (.inl (((100 * b) + (10 * row)) + chair))) rfl (?_)
                                  exact ⟨rint (pl_is hW.2.1 h1 ⟨⟨p1, by omega⟩, ⟨w1, by omega⟩, hcnt.mp h175⟩ (fun r c z => by have z1 := q3 r c z; have z2 := w3 r c z; by_cases e : la S (100 * b + 10 * r) c n = alone; (have := z2 e; omega); omega)).symm, rfl⟩
                                · refine seg_ok 2 (⟨by omega, ?_⟩ : ((-2147483648 : Int) ≤ (chair + 1) ∧ (chair + 1) < 2147483648) ∧ EvI X E_L_place (25, [some (.inr (.inr (some (17, 9, 0)))), some (.inr (.inr (some (18, 9, 0)))), some (.inr (.inr (some (19, 9, 0)))), some (.inl b), some (.inl n), some (.inl alone), some (.inl row), some (.inl (chair + 1)), some (.inl (sm (fun k => bi (opn S (100 * b + 10 * row) (chair + k))) k.toNat)), some (.inl 0)], [], M) _)
                                  refine ih25 (chair + 1) (some (.inl (sm (fun k => bi (opn S (100 * b + 10 * row) (chair + k))) k.toNat))) (some (.inl 0)) (by omega) (by omega) (by omega) (fun r c z y => by
                                      have w4 := w3 r c z y
                                      by_cases e : r = row ∧ c = chair
                                      · rw [e.1, e.2] at y; omega
                                      · have z1 := z.2.1; omega)
                              · refine seg_ok 2 (⟨by omega, ?_⟩ : ((-2147483648 : Int) ≤ (chair + 1) ∧ (chair + 1) < 2147483648) ∧ EvI X E_L_place (25, [some (.inr (.inr (some (17, 9, 0)))), some (.inr (.inr (some (18, 9, 0)))), some (.inr (.inr (some (19, 9, 0)))), some (.inl b), some (.inl n), some (.inl alone), some (.inl row), some (.inl (chair + 1)), some (.inl (sm (fun k => bi (opn S (100 * b + 10 * row) (chair + k))) k.toNat)), some (.inl 0)], [], M) _)
                                refine ih25 (chair + 1) (some (.inl (sm (fun k => bi (opn S (100 * b + 10 * row) (chair + k))) k.toNat))) (some (.inl 0)) (by omega) (by omega) (by omega) (fun r c z y => by
                                    have w4 := w3 r c z y
                                    by_cases e : r = row ∧ c = chair
                                    · rw [e.1, e.2] at z; exact absurd (hcnt.mpr z.2.2) h175
                                    · have z1 := z.2.1; omega)
                            · refine seg_ok 10 (⟨by omega, by omega, ?_⟩ : ((-2147483648 : Int) ≤ (chair + n) ∧ (chair + n) < 2147483648) ∧ ((-2147483648 : Int) ≤ ((chair + n) + 1) ∧ ((chair + n) + 1) < 2147483648) ∧ EvI X E_L_place (157, [some (.inr (.inr (some (17, 9, 0)))), some (.inr (.inr (some (18, 9, 0)))), some (.inr (.inr (some (19, 9, 0)))), some (.inl b), some (.inl n), some (.inl alone), some (.inl row), some (.inl chair), some (.inl (sm (fun k => bi (opn S (100 * b + 10 * row) (chair + k))) k.toNat)), some (.inl 0)], [.inl ((chair + n) + 1), .inl row, .inl b, .inr (.inr (some (19, 9, 0))), .inr (.inr (some (18, 9, 0))), .inr (.inr (some (17, 9, 0))), .inl 0], M) _)
                              refine ev_clp (v := .inl (bi (opn S (100 * b + 10 * row) ((chair + n) + 1)))) (z := z_L_isOpen) (as := [.inr (.inr (some (17, 9, 0))), .inr (.inr (some (18, 9, 0))), .inr (.inr (some (19, 9, 0))), .inl b, .inl row, .inl ((chair + n) + 1)]) (rest := [.inl 0]) rfl (l_isOpen hW (by omega) (by omega)) (?_ : EvI X E_L_place (160, [some (.inr (.inr (some (17, 9, 0)))), some (.inr (.inr (some (18, 9, 0)))), some (.inr (.inr (some (19, 9, 0)))), some (.inl b), some (.inl n), some (.inl alone), some (.inl row), some (.inl chair), some (.inl (sm (fun k => bi (opn S (100 * b + 10 * row) (chair + k))) k.toNat)), some (.inl 0)], [.inl (bi (opn S (100 * b + 10 * row) ((chair + n) + 1))), .inl 0], M) _)
                              refine seg_ok 1 (?_ : EvI X E_L_place (if (bi (opn S (100 * b + 10 * row) ((chair + n) + 1))) = 0 then 163 else 167, [some (.inr (.inr (some (17, 9, 0)))), some (.inr (.inr (some (18, 9, 0)))), some (.inr (.inr (some (19, 9, 0)))), some (.inl b), some (.inl n), some (.inl alone), some (.inl row), some (.inl chair), some (.inl (sm (fun k => bi (opn S (100 * b + 10 * row) (chair + k))) k.toNat)), some (.inl 0)], [.inl 0], M) _)
                              refine ev_ifb (fun h160 => ?_) (fun h160 => ?_)
                              · refine seg_ok 4 (⟨by omega, ?_⟩ : ((-2147483648 : Int) ≤ 1 ∧ (1 : Int) < 2147483648) ∧ EvI X E_L_place (171, [some (.inr (.inr (some (17, 9, 0)))), some (.inr (.inr (some (18, 9, 0)))), some (.inr (.inr (some (19, 9, 0)))), some (.inl b), some (.inl n), some (.inl alone), some (.inl row), some (.inl chair), some (.inl (sm (fun k => bi (opn S (100 * b + 10 * row) (chair + k))) k.toNat)), some (.inl 1)], [], M) _)
                                have hla : la S (100 * b + 10 * row) chair n = 1 := by unfold la; rw [bA_1 h99, bA_t h141 h160]; rfl
                                refine seg_ok 3 (?_ : EvI X E_L_place (if (sm (fun k => bi (opn S (100 * b + 10 * row) (chair + k))) k.toNat) = n then 178 else 199, [some (.inr (.inr (some (17, 9, 0)))), some (.inr (.inr (some (18, 9, 0)))), some (.inr (.inr (some (19, 9, 0)))), some (.inl b), some (.inl n), some (.inl alone), some (.inl row), some (.inl chair), some (.inl (sm (fun k => bi (opn S (100 * b + 10 * row) (chair + k))) k.toNat)), some (.inl 1)], [], M) _)
                                refine ev_if (fun h175 => ?_) (fun h175 => ?_)
                                · refine seg_ok 3 (?_ : EvI X E_L_place (if 1 = alone then 185 else 199, [some (.inr (.inr (some (17, 9, 0)))), some (.inr (.inr (some (18, 9, 0)))), some (.inr (.inr (some (19, 9, 0)))), some (.inl b), some (.inl n), some (.inl alone), some (.inl row), some (.inl chair), some (.inl (sm (fun k => bi (opn S (100 * b + 10 * row) (chair + k))) k.toNat)), some (.inl 1)], [], M) _)
                                  refine ev_if (fun h182 => ?_) (fun h182 => ?_)
                                  · refine seg_ok 9 (⟨by omega, by omega, by omega, by omega, ?_⟩ : ((-2147483648 : Int) ≤ (100 * b) ∧ (100 * b) < 2147483648) ∧ ((-2147483648 : Int) ≤ (10 * row) ∧ (10 * row) < 2147483648) ∧ ((-2147483648 : Int) ≤ ((100 * b) + (10 * row)) ∧ ((100 * b) + (10 * row)) < 2147483648) ∧ ((-2147483648 : Int) ≤ (((100 * b) + (10 * row)) + chair) ∧ (((100 * b) + (10 * row)) + chair) < 2147483648) ∧ EvI X E_L_place (198, [some (.inr (.inr (some (17, 9, 0)))), some (.inr (.inr (some (18, 9, 0)))), some (.inr (.inr (some (19, 9, 0)))), some (.inl b), some (.inl n), some (.inl alone), some (.inl row), some (.inl chair), some (.inl (sm (fun k => bi (opn S (100 * b + 10 * row) (chair + k))) k.toNat)), some (.inl 1)], [.inl (((100 * b) + (10 * row)) + chair)], M) _)
                                    refine ev_rt (r := some (.inl (((100 * b) + (10 * row)) + chair))) rfl (?_)
                                    exact ⟨rint (pl_is hW.2.1 h1 ⟨⟨p1, by omega⟩, ⟨w1, by omega⟩, hcnt.mp h175⟩ (fun r c z => by have z1 := q3 r c z; have z2 := w3 r c z; by_cases e : la S (100 * b + 10 * r) c n = alone; (have := z2 e; omega); omega)).symm, rfl⟩
                                  · refine seg_ok 2 (⟨by omega, ?_⟩ : ((-2147483648 : Int) ≤ (chair + 1) ∧ (chair + 1) < 2147483648) ∧ EvI X E_L_place (25, [some (.inr (.inr (some (17, 9, 0)))), some (.inr (.inr (some (18, 9, 0)))), some (.inr (.inr (some (19, 9, 0)))), some (.inl b), some (.inl n), some (.inl alone), some (.inl row), some (.inl (chair + 1)), some (.inl (sm (fun k => bi (opn S (100 * b + 10 * row) (chair + k))) k.toNat)), some (.inl 1)], [], M) _)
                                    refine ih25 (chair + 1) (some (.inl (sm (fun k => bi (opn S (100 * b + 10 * row) (chair + k))) k.toNat))) (some (.inl 1)) (by omega) (by omega) (by omega) (fun r c z y => by
                                        have w4 := w3 r c z y
                                        by_cases e : r = row ∧ c = chair
                                        · rw [e.1, e.2] at y; omega
                                        · have z1 := z.2.1; omega)
                                · refine seg_ok 2 (⟨by omega, ?_⟩ : ((-2147483648 : Int) ≤ (chair + 1) ∧ (chair + 1) < 2147483648) ∧ EvI X E_L_place (25, [some (.inr (.inr (some (17, 9, 0)))), some (.inr (.inr (some (18, 9, 0)))), some (.inr (.inr (some (19, 9, 0)))), some (.inl b), some (.inl n), some (.inl alone), some (.inl row), some (.inl (chair + 1)), some (.inl (sm (fun k => bi (opn S (100 * b + 10 * row) (chair + k))) k.toNat)), some (.inl 1)], [], M) _)
                                  refine ih25 (chair + 1) (some (.inl (sm (fun k => bi (opn S (100 * b + 10 * row) (chair + k))) k.toNat))) (some (.inl 1)) (by omega) (by omega) (by omega) (fun r c z y => by
                                      have w4 := w3 r c z y
                                      by_cases e : r = row ∧ c = chair
                                      · rw [e.1, e.2] at z; exact absurd (hcnt.mpr z.2.2) h175
                                      · have z1 := z.2.1; omega)
                              · refine seg_ok 3 (⟨by omega, ?_⟩ : ((-2147483648 : Int) ≤ 0 ∧ (0 : Int) < 2147483648) ∧ EvI X E_L_place (171, [some (.inr (.inr (some (17, 9, 0)))), some (.inr (.inr (some (18, 9, 0)))), some (.inr (.inr (some (19, 9, 0)))), some (.inl b), some (.inl n), some (.inl alone), some (.inl row), some (.inl chair), some (.inl (sm (fun k => bi (opn S (100 * b + 10 * row) (chair + k))) k.toNat)), some (.inl 0)], [], M) _)
                                have hla : la S (100 * b + 10 * row) chair n = 0 := by unfold la; rw [bA_1 h99, bA_2 h160]; rfl
                                refine seg_ok 3 (?_ : EvI X E_L_place (if (sm (fun k => bi (opn S (100 * b + 10 * row) (chair + k))) k.toNat) = n then 178 else 199, [some (.inr (.inr (some (17, 9, 0)))), some (.inr (.inr (some (18, 9, 0)))), some (.inr (.inr (some (19, 9, 0)))), some (.inl b), some (.inl n), some (.inl alone), some (.inl row), some (.inl chair), some (.inl (sm (fun k => bi (opn S (100 * b + 10 * row) (chair + k))) k.toNat)), some (.inl 0)], [], M) _)
                                refine ev_if (fun h175 => ?_) (fun h175 => ?_)
                                · refine seg_ok 3 (?_ : EvI X E_L_place (if 0 = alone then 185 else 199, [some (.inr (.inr (some (17, 9, 0)))), some (.inr (.inr (some (18, 9, 0)))), some (.inr (.inr (some (19, 9, 0)))), some (.inl b), some (.inl n), some (.inl alone), some (.inl row), some (.inl chair), some (.inl (sm (fun k => bi (opn S (100 * b + 10 * row) (chair + k))) k.toNat)), some (.inl 0)], [], M) _)
                                  refine ev_if (fun h182 => ?_) (fun h182 => ?_)
                                  · refine seg_ok 9 (⟨by omega, by omega, by omega, by omega, ?_⟩ : ((-2147483648 : Int) ≤ (100 * b) ∧ (100 * b) < 2147483648) ∧ ((-2147483648 : Int) ≤ (10 * row) ∧ (10 * row) < 2147483648) ∧ ((-2147483648 : Int) ≤ ((100 * b) + (10 * row)) ∧ ((100 * b) + (10 * row)) < 2147483648) ∧ ((-2147483648 : Int) ≤ (((100 * b) + (10 * row)) + chair) ∧ (((100 * b) + (10 * row)) + chair) < 2147483648) ∧ EvI X E_L_place (198, [some (.inr (.inr (some (17, 9, 0)))), some (.inr (.inr (some (18, 9, 0)))), some (.inr (.inr (some (19, 9, 0)))), some (.inl b), some (.inl n), some (.inl alone), some (.inl row), some (.inl chair), some (.inl (sm (fun k => bi (opn S (100 * b + 10 * row) (chair + k))) k.toNat)), some (.inl 0)], [.inl (((100 * b) + (10 * row)) + chair)], M) _)
                                    refine ev_rt (r := some (.inl (((100 * b) + (10 * row)) + chair))) rfl (?_)
                                    exact ⟨rint (pl_is hW.2.1 h1 ⟨⟨p1, by omega⟩, ⟨w1, by omega⟩, hcnt.mp h175⟩ (fun r c z => by have z1 := q3 r c z; have z2 := w3 r c z; by_cases e : la S (100 * b + 10 * r) c n = alone; (have := z2 e; omega); omega)).symm, rfl⟩
                                  · refine seg_ok 2 (⟨by omega, ?_⟩ : ((-2147483648 : Int) ≤ (chair + 1) ∧ (chair + 1) < 2147483648) ∧ EvI X E_L_place (25, [some (.inr (.inr (some (17, 9, 0)))), some (.inr (.inr (some (18, 9, 0)))), some (.inr (.inr (some (19, 9, 0)))), some (.inl b), some (.inl n), some (.inl alone), some (.inl row), some (.inl (chair + 1)), some (.inl (sm (fun k => bi (opn S (100 * b + 10 * row) (chair + k))) k.toNat)), some (.inl 0)], [], M) _)
                                    refine ih25 (chair + 1) (some (.inl (sm (fun k => bi (opn S (100 * b + 10 * row) (chair + k))) k.toNat))) (some (.inl 0)) (by omega) (by omega) (by omega) (fun r c z y => by
                                        have w4 := w3 r c z y
                                        by_cases e : r = row ∧ c = chair
                                        · rw [e.1, e.2] at y; omega
                                        · have z1 := z.2.1; omega)
                                · refine seg_ok 2 (⟨by omega, ?_⟩ : ((-2147483648 : Int) ≤ (chair + 1) ∧ (chair + 1) < 2147483648) ∧ EvI X E_L_place (25, [some (.inr (.inr (some (17, 9, 0)))), some (.inr (.inr (some (18, 9, 0)))), some (.inr (.inr (some (19, 9, 0)))), some (.inl b), some (.inl n), some (.inl alone), some (.inl row), some (.inl (chair + 1)), some (.inl (sm (fun k => bi (opn S (100 * b + 10 * row) (chair + k))) k.toNat)), some (.inl 0)], [], M) _)
                                  refine ih25 (chair + 1) (some (.inl (sm (fun k => bi (opn S (100 * b + 10 * row) (chair + k))) k.toNat))) (some (.inl 0)) (by omega) (by omega) (by omega) (fun r c z y => by
                                      have w4 := w3 r c z y
                                      by_cases e : r = row ∧ c = chair
                                      · rw [e.1, e.2] at z; exact absurd (hcnt.mpr z.2.2) h175
                                      · have z1 := z.2.1; omega)
                          · refine seg_ok 8 (⟨by omega, ?_⟩ : ((-2147483648 : Int) ≤ (chair - 2) ∧ (chair - 2) < 2147483648) ∧ EvI X E_L_place (112, [some (.inr (.inr (some (17, 9, 0)))), some (.inr (.inr (some (18, 9, 0)))), some (.inr (.inr (some (19, 9, 0)))), some (.inl b), some (.inl n), some (.inl alone), some (.inl row), some (.inl chair), some (.inl (sm (fun k => bi (opn S (100 * b + 10 * row) (chair + k))) k.toNat)), some (.inl k)], [.inl (chair - 2), .inl row, .inl b, .inr (.inr (some (19, 9, 0))), .inr (.inr (some (18, 9, 0))), .inr (.inr (some (17, 9, 0)))], M) _)
                            refine ev_clp (v := .inl (bi (opn S (100 * b + 10 * row) (chair - 2)))) (z := z_L_isOpen) (as := [.inr (.inr (some (17, 9, 0))), .inr (.inr (some (18, 9, 0))), .inr (.inr (some (19, 9, 0))), .inl b, .inl row, .inl (chair - 2)]) (rest := []) rfl (l_isOpen hW (by omega) (by omega)) (?_ : EvI X E_L_place (115, [some (.inr (.inr (some (17, 9, 0)))), some (.inr (.inr (some (18, 9, 0)))), some (.inr (.inr (some (19, 9, 0)))), some (.inl b), some (.inl n), some (.inl alone), some (.inl row), some (.inl chair), some (.inl (sm (fun k => bi (opn S (100 * b + 10 * row) (chair + k))) k.toNat)), some (.inl k)], [.inl (bi (opn S (100 * b + 10 * row) (chair - 2)))], M) _)
                            refine seg_ok 1 (?_ : EvI X E_L_place (if (bi (opn S (100 * b + 10 * row) (chair - 2))) = 0 then 118 else 122, [some (.inr (.inr (some (17, 9, 0)))), some (.inr (.inr (some (18, 9, 0)))), some (.inr (.inr (some (19, 9, 0)))), some (.inl b), some (.inl n), some (.inl alone), some (.inl row), some (.inl chair), some (.inl (sm (fun k => bi (opn S (100 * b + 10 * row) (chair + k))) k.toNat)), some (.inl k)], [], M) _)
                            refine ev_ifb (fun h115 => ?_) (fun h115 => ?_)
                            · refine seg_ok 12 (⟨by omega, ?_⟩ : ((-2147483648 : Int) ≤ (chair + n) ∧ (chair + n) < 2147483648) ∧ EvI X E_L_place (138, [some (.inr (.inr (some (17, 9, 0)))), some (.inr (.inr (some (18, 9, 0)))), some (.inr (.inr (some (19, 9, 0)))), some (.inl b), some (.inl n), some (.inl alone), some (.inl row), some (.inl chair), some (.inl (sm (fun k => bi (opn S (100 * b + 10 * row) (chair + k))) k.toNat)), some (.inl 1)], [.inl (chair + n), .inl row, .inl b, .inr (.inr (some (19, 9, 0))), .inr (.inr (some (18, 9, 0))), .inr (.inr (some (17, 9, 0))), .inl 1], M) _)
                              refine ev_clp (v := .inl (bi (opn S (100 * b + 10 * row) (chair + n)))) (z := z_L_isOpen) (as := [.inr (.inr (some (17, 9, 0))), .inr (.inr (some (18, 9, 0))), .inr (.inr (some (19, 9, 0))), .inl b, .inl row, .inl (chair + n)]) (rest := [.inl 1]) rfl (l_isOpen hW (by omega) (by omega)) (?_ : EvI X E_L_place (141, [some (.inr (.inr (some (17, 9, 0)))), some (.inr (.inr (some (18, 9, 0)))), some (.inr (.inr (some (19, 9, 0)))), some (.inl b), some (.inl n), some (.inl alone), some (.inl row), some (.inl chair), some (.inl (sm (fun k => bi (opn S (100 * b + 10 * row) (chair + k))) k.toNat)), some (.inl 1)], [.inl (bi (opn S (100 * b + 10 * row) (chair + n))), .inl 1], M) _)
                              refine seg_ok 1 (?_ : EvI X E_L_place (if (bi (opn S (100 * b + 10 * row) (chair + n))) = 0 then 167 else 144, [some (.inr (.inr (some (17, 9, 0)))), some (.inr (.inr (some (18, 9, 0)))), some (.inr (.inr (some (19, 9, 0)))), some (.inl b), some (.inl n), some (.inl alone), some (.inl row), some (.inl chair), some (.inl (sm (fun k => bi (opn S (100 * b + 10 * row) (chair + k))) k.toNat)), some (.inl 1)], [.inl 1], M) _)
                              refine ev_ifb (fun h141 => ?_) (fun h141 => ?_)
                              · refine seg_ok 3 (⟨by omega, ?_⟩ : ((-2147483648 : Int) ≤ 1 ∧ (1 : Int) < 2147483648) ∧ EvI X E_L_place (171, [some (.inr (.inr (some (17, 9, 0)))), some (.inr (.inr (some (18, 9, 0)))), some (.inr (.inr (some (19, 9, 0)))), some (.inl b), some (.inl n), some (.inl alone), some (.inl row), some (.inl chair), some (.inl (sm (fun k => bi (opn S (100 * b + 10 * row) (chair + k))) k.toNat)), some (.inl 1)], [], M) _)
                                have hla : la S (100 * b + 10 * row) chair n = 1 := by unfold la; rw [bA_t h99 h115, bA_1 h141]; rfl
                                refine seg_ok 3 (?_ : EvI X E_L_place (if (sm (fun k => bi (opn S (100 * b + 10 * row) (chair + k))) k.toNat) = n then 178 else 199, [some (.inr (.inr (some (17, 9, 0)))), some (.inr (.inr (some (18, 9, 0)))), some (.inr (.inr (some (19, 9, 0)))), some (.inl b), some (.inl n), some (.inl alone), some (.inl row), some (.inl chair), some (.inl (sm (fun k => bi (opn S (100 * b + 10 * row) (chair + k))) k.toNat)), some (.inl 1)], [], M) _)
                                refine ev_if (fun h175 => ?_) (fun h175 => ?_)
                                · refine seg_ok 3 (?_ : EvI X E_L_place (if 1 = alone then 185 else 199, [some (.inr (.inr (some (17, 9, 0)))), some (.inr (.inr (some (18, 9, 0)))), some (.inr (.inr (some (19, 9, 0)))), some (.inl b), some (.inl n), some (.inl alone), some (.inl row), some (.inl chair), some (.inl (sm (fun k => bi (opn S (100 * b + 10 * row) (chair + k))) k.toNat)), some (.inl 1)], [], M) _)
                                  refine ev_if (fun h182 => ?_) (fun h182 => ?_)
                                  · refine seg_ok 9 (⟨by omega, by omega, by omega, by omega, ?_⟩ : ((-2147483648 : Int) ≤ (100 * b) ∧ (100 * b) < 2147483648) ∧ ((-2147483648 : Int) ≤ (10 * row) ∧ (10 * row) < 2147483648) ∧ ((-2147483648 : Int) ≤ ((100 * b) + (10 * row)) ∧ ((100 * b) + (10 * row)) < 2147483648) ∧ ((-2147483648 : Int) ≤ (((100 * b) + (10 * row)) + chair) ∧ (((100 * b) + (10 * row)) + chair) < 2147483648) ∧ EvI X E_L_place (198, [some (.inr (.inr (some (17, 9, 0)))), some (.inr (.inr (some (18, 9, 0)))), some (.inr (.inr (some (19, 9, 0)))), some (.inl b), some (.inl n), some (.inl alone), some (.inl row), some (.inl chair), some (.inl (sm (fun k => bi (opn S (100 * b + 10 * row) (chair + k))) k.toNat)), some (.inl 1)], [.inl (((100 * b) + (10 * row)) + chair)], M) _)
                                    refine ev_rt (r := some (.inl (((100 * b) + (10 * row)) + chair))) rfl (?_)
                                    exact ⟨rint (pl_is hW.2.1 h1 ⟨⟨p1, by omega⟩, ⟨w1, by omega⟩, hcnt.mp h175⟩ (fun r c z => by have z1 := q3 r c z; have z2 := w3 r c z; by_cases e : la S (100 * b + 10 * r) c n = alone; (have := z2 e; omega); omega)).symm, rfl⟩
                                  · refine seg_ok 2 (⟨by omega, ?_⟩ : ((-2147483648 : Int) ≤ (chair + 1) ∧ (chair + 1) < 2147483648) ∧ EvI X E_L_place (25, [some (.inr (.inr (some (17, 9, 0)))), some (.inr (.inr (some (18, 9, 0)))), some (.inr (.inr (some (19, 9, 0)))), some (.inl b), some (.inl n), some (.inl alone), some (.inl row), some (.inl (chair + 1)), some (.inl (sm (fun k => bi (opn S (100 * b + 10 * row) (chair + k))) k.toNat)), some (.inl 1)], [], M) _)
                                    refine ih25 (chair + 1) (some (.inl (sm (fun k => bi (opn S (100 * b + 10 * row) (chair + k))) k.toNat))) (some (.inl 1)) (by omega) (by omega) (by omega) (fun r c z y => by
                                        have w4 := w3 r c z y
                                        by_cases e : r = row ∧ c = chair
                                        · rw [e.1, e.2] at y; omega
                                        · have z1 := z.2.1; omega)
                                · refine seg_ok 2 (⟨by omega, ?_⟩ : ((-2147483648 : Int) ≤ (chair + 1) ∧ (chair + 1) < 2147483648) ∧ EvI X E_L_place (25, [some (.inr (.inr (some (17, 9, 0)))), some (.inr (.inr (some (18, 9, 0)))), some (.inr (.inr (some (19, 9, 0)))), some (.inl b), some (.inl n), some (.inl alone), some (.inl row), some (.inl (chair + 1)), some (.inl (sm (fun k => bi (opn S (100 * b + 10 * row) (chair + k))) k.toNat)), some (.inl 1)], [], M) _)
                                  refine ih25 (chair + 1) (some (.inl (sm (fun k => bi (opn S (100 * b + 10 * row) (chair + k))) k.toNat))) (some (.inl 1)) (by omega) (by omega) (by omega) (fun r c z y => by
                                      have w4 := w3 r c z y
                                      by_cases e : r = row ∧ c = chair
                                      · rw [e.1, e.2] at z; exact absurd (hcnt.mpr z.2.2) h175
                                      · have z1 := z.2.1; omega)
                              · refine seg_ok 10 (⟨by omega, by omega, ?_⟩ : ((-2147483648 : Int) ≤ (chair + n) ∧ (chair + n) < 2147483648) ∧ ((-2147483648 : Int) ≤ ((chair + n) + 1) ∧ ((chair + n) + 1) < 2147483648) ∧ EvI X E_L_place (157, [some (.inr (.inr (some (17, 9, 0)))), some (.inr (.inr (some (18, 9, 0)))), some (.inr (.inr (some (19, 9, 0)))), some (.inl b), some (.inl n), some (.inl alone), some (.inl row), some (.inl chair), some (.inl (sm (fun k => bi (opn S (100 * b + 10 * row) (chair + k))) k.toNat)), some (.inl 1)], [.inl ((chair + n) + 1), .inl row, .inl b, .inr (.inr (some (19, 9, 0))), .inr (.inr (some (18, 9, 0))), .inr (.inr (some (17, 9, 0))), .inl 1], M) _)
                                refine ev_clp (v := .inl (bi (opn S (100 * b + 10 * row) ((chair + n) + 1)))) (z := z_L_isOpen) (as := [.inr (.inr (some (17, 9, 0))), .inr (.inr (some (18, 9, 0))), .inr (.inr (some (19, 9, 0))), .inl b, .inl row, .inl ((chair + n) + 1)]) (rest := [.inl 1]) rfl (l_isOpen hW (by omega) (by omega)) (?_ : EvI X E_L_place (160, [some (.inr (.inr (some (17, 9, 0)))), some (.inr (.inr (some (18, 9, 0)))), some (.inr (.inr (some (19, 9, 0)))), some (.inl b), some (.inl n), some (.inl alone), some (.inl row), some (.inl chair), some (.inl (sm (fun k => bi (opn S (100 * b + 10 * row) (chair + k))) k.toNat)), some (.inl 1)], [.inl (bi (opn S (100 * b + 10 * row) ((chair + n) + 1))), .inl 1], M) _)
                                refine seg_ok 1 (?_ : EvI X E_L_place (if (bi (opn S (100 * b + 10 * row) ((chair + n) + 1))) = 0 then 163 else 167, [some (.inr (.inr (some (17, 9, 0)))), some (.inr (.inr (some (18, 9, 0)))), some (.inr (.inr (some (19, 9, 0)))), some (.inl b), some (.inl n), some (.inl alone), some (.inl row), some (.inl chair), some (.inl (sm (fun k => bi (opn S (100 * b + 10 * row) (chair + k))) k.toNat)), some (.inl 1)], [.inl 1], M) _)
                                refine ev_ifb (fun h160 => ?_) (fun h160 => ?_)
                                · refine seg_ok 4 (⟨by omega, ?_⟩ : ((-2147483648 : Int) ≤ 2 ∧ (2 : Int) < 2147483648) ∧ EvI X E_L_place (171, [some (.inr (.inr (some (17, 9, 0)))), some (.inr (.inr (some (18, 9, 0)))), some (.inr (.inr (some (19, 9, 0)))), some (.inl b), some (.inl n), some (.inl alone), some (.inl row), some (.inl chair), some (.inl (sm (fun k => bi (opn S (100 * b + 10 * row) (chair + k))) k.toNat)), some (.inl 2)], [], M) _)
                                  have hla : la S (100 * b + 10 * row) chair n = 2 := by unfold la; rw [bA_t h99 h115, bA_t h141 h160]; rfl
                                  refine seg_ok 3 (?_ : EvI X E_L_place (if (sm (fun k => bi (opn S (100 * b + 10 * row) (chair + k))) k.toNat) = n then 178 else 199, [some (.inr (.inr (some (17, 9, 0)))), some (.inr (.inr (some (18, 9, 0)))), some (.inr (.inr (some (19, 9, 0)))), some (.inl b), some (.inl n), some (.inl alone), some (.inl row), some (.inl chair), some (.inl (sm (fun k => bi (opn S (100 * b + 10 * row) (chair + k))) k.toNat)), some (.inl 2)], [], M) _)
                                  refine ev_if (fun h175 => ?_) (fun h175 => ?_)
                                  · refine seg_ok 3 (?_ : EvI X E_L_place (if 2 = alone then 185 else 199, [some (.inr (.inr (some (17, 9, 0)))), some (.inr (.inr (some (18, 9, 0)))), some (.inr (.inr (some (19, 9, 0)))), some (.inl b), some (.inl n), some (.inl alone), some (.inl row), some (.inl chair), some (.inl (sm (fun k => bi (opn S (100 * b + 10 * row) (chair + k))) k.toNat)), some (.inl 2)], [], M) _)
                                    refine ev_if (fun h182 => ?_) (fun h182 => ?_)
                                    · refine seg_ok 9 (⟨by omega, by omega, by omega, by omega, ?_⟩ : ((-2147483648 : Int) ≤ (100 * b) ∧ (100 * b) < 2147483648) ∧ ((-2147483648 : Int) ≤ (10 * row) ∧ (10 * row) < 2147483648) ∧ ((-2147483648 : Int) ≤ ((100 * b) + (10 * row)) ∧ ((100 * b) + (10 * row)) < 2147483648) ∧ ((-2147483648 : Int) ≤ (((100 * b) + (10 * row)) + chair) ∧ (((100 * b) + (10 * row)) + chair) < 2147483648) ∧ EvI X E_L_place (198, [some (.inr (.inr (some (17, 9, 0)))), some (.inr (.inr (some (18, 9, 0)))), some (.inr (.inr (some (19, 9, 0)))), some (.inl b), some (.inl n), some (.inl alone), some (.inl row), some (.inl chair), some (.inl (sm (fun k => bi (opn S (100 * b + 10 * row) (chair + k))) k.toNat)), some (.inl 2)], [.inl (((100 * b) + (10 * row)) + chair)], M) _)
                                      refine ev_rt (r := some (.inl (((100 * b) + (10 * row)) + chair))) rfl (?_)
                                      exact ⟨rint (pl_is hW.2.1 h1 ⟨⟨p1, by omega⟩, ⟨w1, by omega⟩, hcnt.mp h175⟩ (fun r c z => by have z1 := q3 r c z; have z2 := w3 r c z; by_cases e : la S (100 * b + 10 * r) c n = alone; (have := z2 e; omega); omega)).symm, rfl⟩
                                    · refine seg_ok 2 (⟨by omega, ?_⟩ : ((-2147483648 : Int) ≤ (chair + 1) ∧ (chair + 1) < 2147483648) ∧ EvI X E_L_place (25, [some (.inr (.inr (some (17, 9, 0)))), some (.inr (.inr (some (18, 9, 0)))), some (.inr (.inr (some (19, 9, 0)))), some (.inl b), some (.inl n), some (.inl alone), some (.inl row), some (.inl (chair + 1)), some (.inl (sm (fun k => bi (opn S (100 * b + 10 * row) (chair + k))) k.toNat)), some (.inl 2)], [], M) _)
                                      refine ih25 (chair + 1) (some (.inl (sm (fun k => bi (opn S (100 * b + 10 * row) (chair + k))) k.toNat))) (some (.inl 2)) (by omega) (by omega) (by omega) (fun r c z y => by
                                          have w4 := w3 r c z y
                                          by_cases e : r = row ∧ c = chair
                                          · rw [e.1, e.2] at y; omega
                                          · have z1 := z.2.1; omega)
                                  · refine seg_ok 2 (⟨by omega, ?_⟩ : ((-2147483648 : Int) ≤ (chair + 1) ∧ (chair + 1) < 2147483648) ∧ EvI X E_L_place (25, [some (.inr (.inr (some (17, 9, 0)))), some (.inr (.inr (some (18, 9, 0)))), some (.inr (.inr (some (19, 9, 0)))), some (.inl b), some (.inl n), some (.inl alone), some (.inl row), some (.inl (chair + 1)), some (.inl (sm (fun k => bi (opn S (100 * b + 10 * row) (chair + k))) k.toNat)), some (.inl 2)], [], M) _)
                                    refine ih25 (chair + 1) (some (.inl (sm (fun k => bi (opn S (100 * b + 10 * row) (chair + k))) k.toNat))) (some (.inl 2)) (by omega) (by omega) (by omega) (fun r c z y => by
                                        have w4 := w3 r c z y
                                        by_cases e : r = row ∧ c = chair
                                        · rw [e.1, e.2] at z; exact absurd (hcnt.mpr z.2.2) h175
                                        · have z1 := z.2.1; omega)
                                · refine seg_ok 3 (⟨by omega, ?_⟩ : ((-2147483648 : Int) ≤ 1 ∧ (1 : Int) < 2147483648) ∧ EvI X E_L_place (171, [some (.inr (.inr (some (17, 9, 0)))), some (.inr (.inr (some (18, 9, 0)))), some (.inr (.inr (some (19, 9, 0)))), some (.inl b), some (.inl n), some (.inl alone), some (.inl row), some (.inl chair), some (.inl (sm (fun k => bi (opn S (100 * b + 10 * row) (chair + k))) k.toNat)), some (.inl 1)], [], M) _)
                                  have hla : la S (100 * b + 10 * row) chair n = 1 := by unfold la; rw [bA_t h99 h115, bA_2 h160]; rfl
                                  refine seg_ok 3 (?_ : EvI X E_L_place (if (sm (fun k => bi (opn S (100 * b + 10 * row) (chair + k))) k.toNat) = n then 178 else 199, [some (.inr (.inr (some (17, 9, 0)))), some (.inr (.inr (some (18, 9, 0)))), some (.inr (.inr (some (19, 9, 0)))), some (.inl b), some (.inl n), some (.inl alone), some (.inl row), some (.inl chair), some (.inl (sm (fun k => bi (opn S (100 * b + 10 * row) (chair + k))) k.toNat)), some (.inl 1)], [], M) _)
                                  refine ev_if (fun h175 => ?_) (fun h175 => ?_)
                                  · refine seg_ok 3 (?_ : EvI X E_L_place (if 1 = alone then 185 else 199, [some (.inr (.inr (some (17, 9, 0)))), some (.inr (.inr (some (18, 9, 0)))), some (.inr (.inr (some (19, 9, 0)))), some (.inl b), some (.inl n), some (.inl alone), some (.inl row), some (.inl chair), some (.inl (sm (fun k => bi (opn S (100 * b + 10 * row) (chair + k))) k.toNat)), some (.inl 1)], [], M) _)
                                    refine ev_if (fun h182 => ?_) (fun h182 => ?_)
                                    · refine seg_ok 9 (⟨by omega, by omega, by omega, by omega, ?_⟩ : ((-2147483648 : Int) ≤ (100 * b) ∧ (100 * b) < 2147483648) ∧ ((-2147483648 : Int) ≤ (10 * row) ∧ (10 * row) < 2147483648) ∧ ((-2147483648 : Int) ≤ ((100 * b) + (10 * row)) ∧ ((100 * b) + (10 * row)) < 2147483648) ∧ ((-2147483648 : Int) ≤ (((100 * b) + (10 * row)) + chair) ∧ (((100 * b) + (10 * row)) + chair) < 2147483648) ∧ EvI X E_L_place (198, [some (.inr (.inr (some (17, 9, 0)))), some (.inr (.inr (some (18, 9, 0)))), some (.inr (.inr (some (19, 9, 0)))), some (.inl b), some (.inl n), some (.inl alone), some (.inl row), some (.inl chair), some (.inl (sm (fun k => bi (opn S (100 * b + 10 * row) (chair + k))) k.toNat)), some (.inl 1)], [.inl (((100 * b) + (10 * row)) + chair)], M) _)
                                      refine ev_rt (r := some (.inl (((100 * b) + (10 * row)) + chair))) rfl (?_)
                                      exact ⟨rint (pl_is hW.2.1 h1 ⟨⟨p1, by omega⟩, ⟨w1, by omega⟩, hcnt.mp h175⟩ (fun r c z => by have z1 := q3 r c z; have z2 := w3 r c z; by_cases e : la S (100 * b + 10 * r) c n = alone; (have := z2 e; omega); omega)).symm, rfl⟩
                                    · refine seg_ok 2 (⟨by omega, ?_⟩ : ((-2147483648 : Int) ≤ (chair + 1) ∧ (chair + 1) < 2147483648) ∧ EvI X E_L_place (25, [some (.inr (.inr (some (17, 9, 0)))), some (.inr (.inr (some (18, 9, 0)))), some (.inr (.inr (some (19, 9, 0)))), some (.inl b), some (.inl n), some (.inl alone), some (.inl row), some (.inl (chair + 1)), some (.inl (sm (fun k => bi (opn S (100 * b + 10 * row) (chair + k))) k.toNat)), some (.inl 1)], [], M) _)
                                      refine ih25 (chair + 1) (some (.inl (sm (fun k => bi (opn S (100 * b + 10 * row) (chair + k))) k.toNat))) (some (.inl 1)) (by omega) (by omega) (by omega) (fun r c z y => by
                                          have w4 := w3 r c z y
                                          by_cases e : r = row ∧ c = chair
                                          · rw [e.1, e.2] at y; omega
                                          · have z1 := z.2.1; omega)
                                  · refine seg_ok 2 (⟨by omega, ?_⟩ : ((-2147483648 : Int) ≤ (chair + 1) ∧ (chair + 1) < 2147483648) ∧ EvI X E_L_place (25, [some (.inr (.inr (some (17, 9, 0)))), some (.inr (.inr (some (18, 9, 0)))), some (.inr (.inr (some (19, 9, 0)))), some (.inl b), some (.inl n), some (.inl alone), some (.inl row), some (.inl (chair + 1)), some (.inl (sm (fun k => bi (opn S (100 * b + 10 * row) (chair + k))) k.toNat)), some (.inl 1)], [], M) _)
                                    refine ih25 (chair + 1) (some (.inl (sm (fun k => bi (opn S (100 * b + 10 * row) (chair + k))) k.toNat))) (some (.inl 1)) (by omega) (by omega) (by omega) (fun r c z y => by
                                        have w4 := w3 r c z y
                                        by_cases e : r = row ∧ c = chair
                                        · rw [e.1, e.2] at z; exact absurd (hcnt.mpr z.2.2) h175
                                        · have z1 := z.2.1; omega)
                            · refine seg_ok 11 (⟨by omega, ?_⟩ : ((-2147483648 : Int) ≤ (chair + n) ∧ (chair + n) < 2147483648) ∧ EvI X E_L_place (138, [some (.inr (.inr (some (17, 9, 0)))), some (.inr (.inr (some (18, 9, 0)))), some (.inr (.inr (some (19, 9, 0)))), some (.inl b), some (.inl n), some (.inl alone), some (.inl row), some (.inl chair), some (.inl (sm (fun k => bi (opn S (100 * b + 10 * row) (chair + k))) k.toNat)), some (.inl 0)], [.inl (chair + n), .inl row, .inl b, .inr (.inr (some (19, 9, 0))), .inr (.inr (some (18, 9, 0))), .inr (.inr (some (17, 9, 0))), .inl 0], M) _)
                              refine ev_clp (v := .inl (bi (opn S (100 * b + 10 * row) (chair + n)))) (z := z_L_isOpen) (as := [.inr (.inr (some (17, 9, 0))), .inr (.inr (some (18, 9, 0))), .inr (.inr (some (19, 9, 0))), .inl b, .inl row, .inl (chair + n)]) (rest := [.inl 0]) rfl (l_isOpen hW (by omega) (by omega)) (?_ : EvI X E_L_place (141, [some (.inr (.inr (some (17, 9, 0)))), some (.inr (.inr (some (18, 9, 0)))), some (.inr (.inr (some (19, 9, 0)))), some (.inl b), some (.inl n), some (.inl alone), some (.inl row), some (.inl chair), some (.inl (sm (fun k => bi (opn S (100 * b + 10 * row) (chair + k))) k.toNat)), some (.inl 0)], [.inl (bi (opn S (100 * b + 10 * row) (chair + n))), .inl 0], M) _)
                              refine seg_ok 1 (?_ : EvI X E_L_place (if (bi (opn S (100 * b + 10 * row) (chair + n))) = 0 then 167 else 144, [some (.inr (.inr (some (17, 9, 0)))), some (.inr (.inr (some (18, 9, 0)))), some (.inr (.inr (some (19, 9, 0)))), some (.inl b), some (.inl n), some (.inl alone), some (.inl row), some (.inl chair), some (.inl (sm (fun k => bi (opn S (100 * b + 10 * row) (chair + k))) k.toNat)), some (.inl 0)], [.inl 0], M) _)
                              refine ev_ifb (fun h141 => ?_) (fun h141 => ?_)
                              · refine seg_ok 3 (⟨by omega, ?_⟩ : ((-2147483648 : Int) ≤ 0 ∧ (0 : Int) < 2147483648) ∧ EvI X E_L_place (171, [some (.inr (.inr (some (17, 9, 0)))), some (.inr (.inr (some (18, 9, 0)))), some (.inr (.inr (some (19, 9, 0)))), some (.inl b), some (.inl n), some (.inl alone), some (.inl row), some (.inl chair), some (.inl (sm (fun k => bi (opn S (100 * b + 10 * row) (chair + k))) k.toNat)), some (.inl 0)], [], M) _)
                                have hla : la S (100 * b + 10 * row) chair n = 0 := by unfold la; rw [bA_2 h115, bA_1 h141]; rfl
                                refine seg_ok 3 (?_ : EvI X E_L_place (if (sm (fun k => bi (opn S (100 * b + 10 * row) (chair + k))) k.toNat) = n then 178 else 199, [some (.inr (.inr (some (17, 9, 0)))), some (.inr (.inr (some (18, 9, 0)))), some (.inr (.inr (some (19, 9, 0)))), some (.inl b), some (.inl n), some (.inl alone), some (.inl row), some (.inl chair), some (.inl (sm (fun k => bi (opn S (100 * b + 10 * row) (chair + k))) k.toNat)), some (.inl 0)], [], M) _)
                                refine ev_if (fun h175 => ?_) (fun h175 => ?_)
                                · refine seg_ok 3 (?_ : EvI X E_L_place (if 0 = alone then 185 else 199, [some (.inr (.inr (some (17, 9, 0)))), some (.inr (.inr (some (18, 9, 0)))), some (.inr (.inr (some (19, 9, 0)))), some (.inl b), some (.inl n), some (.inl alone), some (.inl row), some (.inl chair), some (.inl (sm (fun k => bi (opn S (100 * b + 10 * row) (chair + k))) k.toNat)), some (.inl 0)], [], M) _)
                                  refine ev_if (fun h182 => ?_) (fun h182 => ?_)
                                  · refine seg_ok 9 (⟨by omega, by omega, by omega, by omega, ?_⟩ : ((-2147483648 : Int) ≤ (100 * b) ∧ (100 * b) < 2147483648) ∧ ((-2147483648 : Int) ≤ (10 * row) ∧ (10 * row) < 2147483648) ∧ ((-2147483648 : Int) ≤ ((100 * b) + (10 * row)) ∧ ((100 * b) + (10 * row)) < 2147483648) ∧ ((-2147483648 : Int) ≤ (((100 * b) + (10 * row)) + chair) ∧ (((100 * b) + (10 * row)) + chair) < 2147483648) ∧ EvI X E_L_place (198, [some (.inr (.inr (some (17, 9, 0)))), some (.inr (.inr (some (18, 9, 0)))), some (.inr (.inr (some (19, 9, 0)))), some (.inl b), some (.inl n), some (.inl alone), some (.inl row), some (.inl chair), some (.inl (sm (fun k => bi (opn S (100 * b + 10 * row) (chair + k))) k.toNat)), some (.inl 0)], [.inl (((100 * b) + (10 * row)) + chair)], M) _)
                                    refine ev_rt (r := some (.inl (((100 * b) + (10 * row)) + chair))) rfl (?_)
                                    exact ⟨rint (pl_is hW.2.1 h1 ⟨⟨p1, by omega⟩, ⟨w1, by omega⟩, hcnt.mp h175⟩ (fun r c z => by have z1 := q3 r c z; have z2 := w3 r c z; by_cases e : la S (100 * b + 10 * r) c n = alone; (have := z2 e; omega); omega)).symm, rfl⟩
                                  · refine seg_ok 2 (⟨by omega, ?_⟩ : ((-2147483648 : Int) ≤ (chair + 1) ∧ (chair + 1) < 2147483648) ∧ EvI X E_L_place (25, [some (.inr (.inr (some (17, 9, 0)))), some (.inr (.inr (some (18, 9, 0)))), some (.inr (.inr (some (19, 9, 0)))), some (.inl b), some (.inl n), some (.inl alone), some (.inl row), some (.inl (chair + 1)), some (.inl (sm (fun k => bi (opn S (100 * b + 10 * row) (chair + k))) k.toNat)), some (.inl 0)], [], M) _)
                                    refine ih25 (chair + 1) (some (.inl (sm (fun k => bi (opn S (100 * b + 10 * row) (chair + k))) k.toNat))) (some (.inl 0)) (by omega) (by omega) (by omega) (fun r c z y => by
                                        have w4 := w3 r c z y
                                        by_cases e : r = row ∧ c = chair
                                        · rw [e.1, e.2] at y; omega
                                        · have z1 := z.2.1; omega)
                                · refine seg_ok 2 (⟨by omega, ?_⟩ : ((-2147483648 : Int) ≤ (chair + 1) ∧ (chair + 1) < 2147483648) ∧ EvI X E_L_place (25, [some (.inr (.inr (some (17, 9, 0)))), some (.inr (.inr (some (18, 9, 0)))), some (.inr (.inr (some (19, 9, 0)))), some (.inl b), some (.inl n), some (.inl alone), some (.inl row), some (.inl (chair + 1)), some (.inl (sm (fun k => bi (opn S (100 * b + 10 * row) (chair + k))) k.toNat)), some (.inl 0)], [], M) _)
                                  refine ih25 (chair + 1) (some (.inl (sm (fun k => bi (opn S (100 * b + 10 * row) (chair + k))) k.toNat))) (some (.inl 0)) (by omega) (by omega) (by omega) (fun r c z y => by
                                      have w4 := w3 r c z y
                                      by_cases e : r = row ∧ c = chair
                                      · rw [e.1, e.2] at z; exact absurd (hcnt.mpr z.2.2) h175
                                      · have z1 := z.2.1; omega)
                              · refine seg_ok 10 (⟨by omega, by omega, ?_⟩ : ((-2147483648 : Int) ≤ (chair + n) ∧ (chair + n) < 2147483648) ∧ ((-2147483648 : Int) ≤ ((chair + n) + 1) ∧ ((chair + n) + 1) < 2147483648) ∧ EvI X E_L_place (157, [some (.inr (.inr (some (17, 9, 0)))), some (.inr (.inr (some (18, 9, 0)))), some (.inr (.inr (some (19, 9, 0)))), some (.inl b), some (.inl n), some (.inl alone), some (.inl row), some (.inl chair), some (.inl (sm (fun k => bi (opn S (100 * b + 10 * row) (chair + k))) k.toNat)), some (.inl 0)], [.inl ((chair + n) + 1), .inl row, .inl b, .inr (.inr (some (19, 9, 0))), .inr (.inr (some (18, 9, 0))), .inr (.inr (some (17, 9, 0))), .inl 0], M) _)
                                refine ev_clp (v := .inl (bi (opn S (100 * b + 10 * row) ((chair + n) + 1)))) (z := z_L_isOpen) (as := [.inr (.inr (some (17, 9, 0))), .inr (.inr (some (18, 9, 0))), .inr (.inr (some (19, 9, 0))), .inl b, .inl row, .inl ((chair + n) + 1)]) (rest := [.inl 0]) rfl (l_isOpen hW (by omega) (by omega)) (?_ : EvI X E_L_place (160, [some (.inr (.inr (some (17, 9, 0)))), some (.inr (.inr (some (18, 9, 0)))), some (.inr (.inr (some (19, 9, 0)))), some (.inl b), some (.inl n), some (.inl alone), some (.inl row), some (.inl chair), some (.inl (sm (fun k => bi (opn S (100 * b + 10 * row) (chair + k))) k.toNat)), some (.inl 0)], [.inl (bi (opn S (100 * b + 10 * row) ((chair + n) + 1))), .inl 0], M) _)
                                refine seg_ok 1 (?_ : EvI X E_L_place (if (bi (opn S (100 * b + 10 * row) ((chair + n) + 1))) = 0 then 163 else 167, [some (.inr (.inr (some (17, 9, 0)))), some (.inr (.inr (some (18, 9, 0)))), some (.inr (.inr (some (19, 9, 0)))), some (.inl b), some (.inl n), some (.inl alone), some (.inl row), some (.inl chair), some (.inl (sm (fun k => bi (opn S (100 * b + 10 * row) (chair + k))) k.toNat)), some (.inl 0)], [.inl 0], M) _)
                                refine ev_ifb (fun h160 => ?_) (fun h160 => ?_)
                                · refine seg_ok 4 (⟨by omega, ?_⟩ : ((-2147483648 : Int) ≤ 1 ∧ (1 : Int) < 2147483648) ∧ EvI X E_L_place (171, [some (.inr (.inr (some (17, 9, 0)))), some (.inr (.inr (some (18, 9, 0)))), some (.inr (.inr (some (19, 9, 0)))), some (.inl b), some (.inl n), some (.inl alone), some (.inl row), some (.inl chair), some (.inl (sm (fun k => bi (opn S (100 * b + 10 * row) (chair + k))) k.toNat)), some (.inl 1)], [], M) _)
                                  have hla : la S (100 * b + 10 * row) chair n = 1 := by unfold la; rw [bA_2 h115, bA_t h141 h160]; rfl
                                  refine seg_ok 3 (?_ : EvI X E_L_place (if (sm (fun k => bi (opn S (100 * b + 10 * row) (chair + k))) k.toNat) = n then 178 else 199, [some (.inr (.inr (some (17, 9, 0)))), some (.inr (.inr (some (18, 9, 0)))), some (.inr (.inr (some (19, 9, 0)))), some (.inl b), some (.inl n), some (.inl alone), some (.inl row), some (.inl chair), some (.inl (sm (fun k => bi (opn S (100 * b + 10 * row) (chair + k))) k.toNat)), some (.inl 1)], [], M) _)
                                  refine ev_if (fun h175 => ?_) (fun h175 => ?_)
                                  · refine seg_ok 3 (?_ : EvI X E_L_place (if 1 = alone then 185 else 199, [some (.inr (.inr (some (17, 9, 0)))), some (.inr (.inr (some (18, 9, 0)))), some (.inr (.inr (some (19, 9, 0)))), some (.inl b), some (.inl n), some (.inl alone), some (.inl row), some (.inl chair), some (.inl (sm (fun k => bi (opn S (100 * b + 10 * row) (chair + k))) k.toNat)), some (.inl 1)], [], M) _)
                                    refine ev_if (fun h182 => ?_) (fun h182 => ?_)
                                    · refine seg_ok 9 (⟨by omega, by omega, by omega, by omega, ?_⟩ : ((-2147483648 : Int) ≤ (100 * b) ∧ (100 * b) < 2147483648) ∧ ((-2147483648 : Int) ≤ (10 * row) ∧ (10 * row) < 2147483648) ∧ ((-2147483648 : Int) ≤ ((100 * b) + (10 * row)) ∧ ((100 * b) + (10 * row)) < 2147483648) ∧ ((-2147483648 : Int) ≤ (((100 * b) + (10 * row)) + chair) ∧ (((100 * b) + (10 * row)) + chair) < 2147483648) ∧ EvI X E_L_place (198, [some (.inr (.inr (some (17, 9, 0)))), some (.inr (.inr (some (18, 9, 0)))), some (.inr (.inr (some (19, 9, 0)))), some (.inl b), some (.inl n), some (.inl alone), some (.inl row), some (.inl chair), some (.inl (sm (fun k => bi (opn S (100 * b + 10 * row) (chair + k))) k.toNat)), some (.inl 1)], [.inl (((100 * b) + (10 * row)) + chair)], M) _)
                                      refine ev_rt (r := some (.inl (((100 * b) + (10 * row)) + chair))) rfl (?_)
                                      exact ⟨rint (pl_is hW.2.1 h1 ⟨⟨p1, by omega⟩, ⟨w1, by omega⟩, hcnt.mp h175⟩ (fun r c z => by have z1 := q3 r c z; have z2 := w3 r c z; by_cases e : la S (100 * b + 10 * r) c n = alone; (have := z2 e; omega); omega)).symm, rfl⟩
                                    · refine seg_ok 2 (⟨by omega, ?_⟩ : ((-2147483648 : Int) ≤ (chair + 1) ∧ (chair + 1) < 2147483648) ∧ EvI X E_L_place (25, [some (.inr (.inr (some (17, 9, 0)))), some (.inr (.inr (some (18, 9, 0)))), some (.inr (.inr (some (19, 9, 0)))), some (.inl b), some (.inl n), some (.inl alone), some (.inl row), some (.inl (chair + 1)), some (.inl (sm (fun k => bi (opn S (100 * b + 10 * row) (chair + k))) k.toNat)), some (.inl 1)], [], M) _)
                                      refine ih25 (chair + 1) (some (.inl (sm (fun k => bi (opn S (100 * b + 10 * row) (chair + k))) k.toNat))) (some (.inl 1)) (by omega) (by omega) (by omega) (fun r c z y => by
                                          have w4 := w3 r c z y
                                          by_cases e : r = row ∧ c = chair
                                          · rw [e.1, e.2] at y; omega
                                          · have z1 := z.2.1; omega)
                                  · refine seg_ok 2 (⟨by omega, ?_⟩ : ((-2147483648 : Int) ≤ (chair + 1) ∧ (chair + 1) < 2147483648) ∧ EvI X E_L_place (25, [some (.inr (.inr (some (17, 9, 0)))), some (.inr (.inr (some (18, 9, 0)))), some (.inr (.inr (some (19, 9, 0)))), some (.inl b), some (.inl n), some (.inl alone), some (.inl row), some (.inl (chair + 1)), some (.inl (sm (fun k => bi (opn S (100 * b + 10 * row) (chair + k))) k.toNat)), some (.inl 1)], [], M) _)
                                    refine ih25 (chair + 1) (some (.inl (sm (fun k => bi (opn S (100 * b + 10 * row) (chair + k))) k.toNat))) (some (.inl 1)) (by omega) (by omega) (by omega) (fun r c z y => by
                                        have w4 := w3 r c z y
                                        by_cases e : r = row ∧ c = chair
                                        · rw [e.1, e.2] at z; exact absurd (hcnt.mpr z.2.2) h175
                                        · have z1 := z.2.1; omega)
                                · refine seg_ok 3 (⟨by omega, ?_⟩ : ((-2147483648 : Int) ≤ 0 ∧ (0 : Int) < 2147483648) ∧ EvI X E_L_place (171, [some (.inr (.inr (some (17, 9, 0)))), some (.inr (.inr (some (18, 9, 0)))), some (.inr (.inr (some (19, 9, 0)))), some (.inl b), some (.inl n), some (.inl alone), some (.inl row), some (.inl chair), some (.inl (sm (fun k => bi (opn S (100 * b + 10 * row) (chair + k))) k.toNat)), some (.inl 0)], [], M) _)
                                  have hla : la S (100 * b + 10 * row) chair n = 0 := by unfold la; rw [bA_2 h115, bA_2 h160]; rfl
                                  refine seg_ok 3 (?_ : EvI X E_L_place (if (sm (fun k => bi (opn S (100 * b + 10 * row) (chair + k))) k.toNat) = n then 178 else 199, [some (.inr (.inr (some (17, 9, 0)))), some (.inr (.inr (some (18, 9, 0)))), some (.inr (.inr (some (19, 9, 0)))), some (.inl b), some (.inl n), some (.inl alone), some (.inl row), some (.inl chair), some (.inl (sm (fun k => bi (opn S (100 * b + 10 * row) (chair + k))) k.toNat)), some (.inl 0)], [], M) _)
                                  refine ev_if (fun h175 => ?_) (fun h175 => ?_)
                                  · refine seg_ok 3 (?_ : EvI X E_L_place (if 0 = alone then 185 else 199, [some (.inr (.inr (some (17, 9, 0)))), some (.inr (.inr (some (18, 9, 0)))), some (.inr (.inr (some (19, 9, 0)))), some (.inl b), some (.inl n), some (.inl alone), some (.inl row), some (.inl chair), some (.inl (sm (fun k => bi (opn S (100 * b + 10 * row) (chair + k))) k.toNat)), some (.inl 0)], [], M) _)
                                    refine ev_if (fun h182 => ?_) (fun h182 => ?_)
                                    · refine seg_ok 9 (⟨by omega, by omega, by omega, by omega, ?_⟩ : ((-2147483648 : Int) ≤ (100 * b) ∧ (100 * b) < 2147483648) ∧ ((-2147483648 : Int) ≤ (10 * row) ∧ (10 * row) < 2147483648) ∧ ((-2147483648 : Int) ≤ ((100 * b) + (10 * row)) ∧ ((100 * b) + (10 * row)) < 2147483648) ∧ ((-2147483648 : Int) ≤ (((100 * b) + (10 * row)) + chair) ∧ (((100 * b) + (10 * row)) + chair) < 2147483648) ∧ EvI X E_L_place (198, [some (.inr (.inr (some (17, 9, 0)))), some (.inr (.inr (some (18, 9, 0)))), some (.inr (.inr (some (19, 9, 0)))), some (.inl b), some (.inl n), some (.inl alone), some (.inl row), some (.inl chair), some (.inl (sm (fun k => bi (opn S (100 * b + 10 * row) (chair + k))) k.toNat)), some (.inl 0)], [.inl (((100 * b) + (10 * row)) + chair)], M) _)
                                      refine ev_rt (r := some (.inl (((100 * b) + (10 * row)) + chair))) rfl (?_)
                                      exact ⟨rint (pl_is hW.2.1 h1 ⟨⟨p1, by omega⟩, ⟨w1, by omega⟩, hcnt.mp h175⟩ (fun r c z => by have z1 := q3 r c z; have z2 := w3 r c z; by_cases e : la S (100 * b + 10 * r) c n = alone; (have := z2 e; omega); omega)).symm, rfl⟩
                                    · refine seg_ok 2 (⟨by omega, ?_⟩ : ((-2147483648 : Int) ≤ (chair + 1) ∧ (chair + 1) < 2147483648) ∧ EvI X E_L_place (25, [some (.inr (.inr (some (17, 9, 0)))), some (.inr (.inr (some (18, 9, 0)))), some (.inr (.inr (some (19, 9, 0)))), some (.inl b), some (.inl n), some (.inl alone), some (.inl row), some (.inl (chair + 1)), some (.inl (sm (fun k => bi (opn S (100 * b + 10 * row) (chair + k))) k.toNat)), some (.inl 0)], [], M) _)
                                      refine ih25 (chair + 1) (some (.inl (sm (fun k => bi (opn S (100 * b + 10 * row) (chair + k))) k.toNat))) (some (.inl 0)) (by omega) (by omega) (by omega) (fun r c z y => by
                                          have w4 := w3 r c z y
                                          by_cases e : r = row ∧ c = chair
                                          · rw [e.1, e.2] at y; omega
                                          · have z1 := z.2.1; omega)
                                  · refine seg_ok 2 (⟨by omega, ?_⟩ : ((-2147483648 : Int) ≤ (chair + 1) ∧ (chair + 1) < 2147483648) ∧ EvI X E_L_place (25, [some (.inr (.inr (some (17, 9, 0)))), some (.inr (.inr (some (18, 9, 0)))), some (.inr (.inr (some (19, 9, 0)))), some (.inl b), some (.inl n), some (.inl alone), some (.inl row), some (.inl (chair + 1)), some (.inl (sm (fun k => bi (opn S (100 * b + 10 * row) (chair + k))) k.toNat)), some (.inl 0)], [], M) _)
                                    refine ih25 (chair + 1) (some (.inl (sm (fun k => bi (opn S (100 * b + 10 * row) (chair + k))) k.toNat))) (some (.inl 0)) (by omega) (by omega) (by omega) (fun r c z y => by
                                        have w4 := w3 r c z y
                                        by_cases e : r = row ∧ c = chair
                                        · rw [e.1, e.2] at z; exact absurd (hcnt.mpr z.2.2) h175
                                        · have z1 := z.2.1; omega)
                    refine L46 ((n - 0) + 1 : Int).toNat 0 0 (by omega) (by omega) (by omega) rfl
              refine L25 ((8 - 0) + 1 : Int).toNat 0 d12_8 d12_9 (by omega) (by omega) (by omega) (fun r c z y => by have := p3 r c z y; omega)
            · refine seg_ok 2 (⟨by omega, ?_⟩ : ((-2147483648 : Int) ≤ (alone + 1) ∧ (alone + 1) < 2147483648) ∧ EvI X E_L_place (3, [some (.inr (.inr (some (17, 9, 0)))), some (.inr (.inr (some (18, 9, 0)))), some (.inr (.inr (some (19, 9, 0)))), some (.inl b), some (.inl n), some (.inl (alone + 1)), some (.inl row), d12_7, d12_8, d12_9], [], M) _)
              refine ih3 (alone + 1) (some (.inl row)) d12_7 d12_8 d12_9 (by omega) (by omega) (by omega) (fun r c z => by have z1 := z.1; have z2 := z.2.1; have z3 := q3 r c z; by_cases e : la S (100 * b + 10 * r) c n = alone; (have := p3 r c z e; omega); omega)
        refine L12 ((S 0 b 0 - 0) + 1 : Int).toNat 0 d3_7 d3_8 d3_9 (by omega) (by omega) (by omega) (fun r c z _ => by have z1 := z.1; have z2 := z.2.1; omega)
      · refine seg_ok 1 (?_ : EvI X E_L_place (219, [some (.inr (.inr (some (17, 9, 0)))), some (.inr (.inr (some (18, 9, 0)))), some (.inr (.inr (some (19, 9, 0)))), some (.inl b), some (.inl n), some (.inl alone), d3_6, d3_7, d3_8, d3_9], [.inl (-9)], M) _)
        refine ev_rt (r := some (.inl (-9))) rfl (?_)
        exact ⟨rint (pl_no hW.2.1 h1 (fun r c z => by have z1 := q3 r c z; have z2 := la_2 S (100 * b + 10 * r) c n; omega)).symm, rfl⟩
  refine L3 ((3 - 0) + 1 : Int).toNat 0 none none none none (by omega) (by omega) (by omega) (fun r c _ => (la_2 S (100 * b + 10 * r) c n).1)
end
