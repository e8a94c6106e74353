/-! 36: a text's tokens -/
noncomputable def kd (c : Int) : Int := cif (97 ≤ c ∧ c ≤ 122) 1 (cif (48 ≤ c ∧ c ≤ 57) 2 0)
noncomputable def skN (T : Int → Int) (L : Int) : Nat → Int → Int
  | 0, p => p
  | n + 1, p => cif (p < L ∧ T p = 32) (skN T L n (p + 1)) p
noncomputable def sk (T : Int → Int) (L p : Int) : Int := skN T L (L - p).toNat p
noncomputable def rnN (T : Int → Int) (L k : Int) : Nat → Int → Int
  | 0, p => p
  | n + 1, p => cif (p < L ∧ kd (T p) = k) (rnN T L k n (p + 1)) p
noncomputable def rn (T : Int → Int) (L k p : Int) : Int := rnN T L k (L - p).toNat p
noncomputable def tkE (T : Int → Int) (L s : Int) : Int := cif (s < L) (cif (kd (T s) = 0) (s + 1) (rn T L (kd (T s)) (s + 1))) s
theorem kd_r (c : Int) : kd c = 0 ∨ kd c = 1 ∨ kd c = 2 := by
  unfold kd
  by_cases h : 97 ≤ c ∧ c ≤ 122
  · rw [cif_t h]; exact Or.inr (Or.inl rfl)
  · rw [cif_f h]
    by_cases k : 48 ≤ c ∧ c ≤ 57
    · rw [cif_t k]; exact Or.inr (Or.inr rfl)
    · rw [cif_f k]; exact Or.inl rfl
theorem kd_1 {c : Int} : kd c = 1 ↔ 97 ≤ c ∧ c ≤ 122 := by
  unfold kd
  by_cases h : 97 ≤ c ∧ c ≤ 122
  · rw [cif_t h]; exact ⟨fun _ => h, fun _ => rfl⟩
  · rw [cif_f h]
    by_cases k : 48 ≤ c ∧ c ≤ 57
    · rw [cif_t k]; exact ⟨fun z => by omega, fun z => absurd z h⟩
    · rw [cif_f k]; exact ⟨fun z => by omega, fun z => absurd z h⟩
theorem kd_2 {c : Int} : kd c = 2 ↔ 48 ≤ c ∧ c ≤ 57 := by
  unfold kd
  by_cases h : 97 ≤ c ∧ c ≤ 122
  · rw [cif_t h]; exact ⟨fun z => by omega, fun z => by omega⟩
  · rw [cif_f h]
    by_cases k : 48 ≤ c ∧ c ≤ 57
    · rw [cif_t k]; exact ⟨fun _ => k, fun _ => rfl⟩
    · rw [cif_f k]; exact ⟨fun z => by omega, fun z => absurd z k⟩
theorem sk_t {T : Int → Int} {L p : Int} (h : p < L) (h2 : T p = 32) : sk T L p = sk T L (p + 1) := by
  unfold sk
  rw [show (L - p).toNat = (L - (p + 1)).toNat + 1 by omega, skN, cif_t ⟨h, h2⟩]
theorem sk_f {T : Int → Int} {L p : Int} (h : ¬ (p < L ∧ T p = 32)) : sk T L p = p := by
  unfold sk
  cases (L - p).toNat with
  | zero => rfl
  | succ n => rw [skN, cif_f h]
theorem rn_t {T : Int → Int} {L k p : Int} (h : p < L) (h2 : kd (T p) = k) : rn T L k p = rn T L k (p + 1) := by
  unfold rn
  rw [show (L - p).toNat = (L - (p + 1)).toNat + 1 by omega, rnN, cif_t ⟨h, h2⟩]
theorem rn_f {T : Int → Int} {L k p : Int} (h : ¬ (p < L ∧ kd (T p) = k)) : rn T L k p = p := by
  unfold rn
  cases (L - p).toNat with
  | zero => rfl
  | succ n => rw [rnN, cif_f h]
theorem sk_r {T : Int → Int} {L : Int} : ∀ (n : Nat) (p : Int), (L - p).toNat = n → p ≤ L → p ≤ sk T L p ∧ sk T L p ≤ L ∧ ¬ (sk T L p < L ∧ T (sk T L p) = 32) := by
  intro n
  induction n with
  | zero =>
    intro p h hp
    rw [sk_f (by omega)]
    exact ⟨Int.le_refl _, hp, by omega⟩
  | succ n ih =>
    intro p h hp
    by_cases q : p < L ∧ T p = 32
    · rw [sk_t q.1 q.2]
      obtain ⟨a, b, c⟩ := ih (p + 1) (by omega) (by omega)
      exact ⟨by omega, b, c⟩
    · rw [sk_f q]; exact ⟨Int.le_refl _, hp, q⟩
theorem rn_r {T : Int → Int} {L k : Int} : ∀ (n : Nat) (p : Int), (L - p).toNat = n → p ≤ L → p ≤ rn T L k p ∧ rn T L k p ≤ L ∧ (∀ x, p ≤ x → x < rn T L k p → kd (T x) = k) ∧ ¬ (rn T L k p < L ∧ kd (T (rn T L k p)) = k) := by
  intro n
  induction n with
  | zero =>
    intro p h hp
    rw [rn_f (by omega)]
    exact ⟨Int.le_refl _, hp, fun x a b => by omega, by omega⟩
  | succ n ih =>
    intro p h hp
    by_cases q : p < L ∧ kd (T p) = k
    · rw [rn_t q.1 q.2]
      obtain ⟨a, b, c, d⟩ := ih (p + 1) (by omega) (by omega)
      refine ⟨by omega, b, fun x x0 x1 => ?_, d⟩
      by_cases z : x = p
      · rw [z]; exact q.2
      · exact c x (by omega) x1
    · rw [rn_f q]; exact ⟨Int.le_refl _, hp, fun x a b => by omega, q⟩
/-- a token: where it begins, ends; what its signs are -/
theorem tk_r {T : Int → Int} {L s : Int} (h : s ≤ L) : s ≤ tkE T L s ∧ tkE T L s ≤ L ∧ (s < L → s < tkE T L s) ∧ (∀ x, s ≤ x → x < tkE T L s → kd (T x) = kd (T s)) ∧ (s < L → kd (T s) = 0 → tkE T L s = s + 1) := by
  unfold tkE
  by_cases q : s < L
  · rw [cif_t q]
    by_cases k : kd (T s) = 0
    · rw [cif_t k]
      exact ⟨by omega, by omega, fun _ => by omega, fun x a b => by rw [show x = s by omega], fun _ _ => rfl⟩
    · rw [cif_f k]
      obtain ⟨a, b, c, d⟩ := rn_r (T := T) (L := L) (k := kd (T s)) _ (s + 1) rfl (by omega)
      refine ⟨by omega, b, fun _ => by omega, fun x x0 x1 => ?_, fun _ z => absurd z k⟩
      by_cases z : x = s
      · rw [z]
      · exact c x (by omega) x1
  · rw [cif_f q]
    exact ⟨Int.le_refl _, h, fun z => absurd z q, fun x a b => by omega, fun z => absurd z q⟩
noncomputable def srt (T : Int → Int) (L s : Int) : Int := cif (s = L) 0 (cif (kd (T s) = 0) 3 (kd (T s)))
