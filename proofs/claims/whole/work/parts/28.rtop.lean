/-! 28: the reference: calls -/
theorem RW_fr {m : Int} {M M' : NM} {S : Sl} (h : M' 17 = M 17) (hW : RW m M S) : RW m M' S := by
  unfold RW at *
  rw [h]; exact hW
/-- what an order does to the reference beside the row: its past, no more -/
def KPT (v : Int) (M MM : NM) : Prop := (0 ≤ v → HK (M 17 0 0) M MM) ∧ (v < 0 → MM 8 0 0 4 = M 8 0 0 4 ∧ MM 19 = M 19) ∧ Fo (fun K => K = 8 ∨ K = 17 ∨ K = 18 ∨ K = 19) M MM ∧ MM 8 0 0 6 = M 8 0 0 6
theorem HK_cg {P P' : Int → Int} {M M' MM : NM} (h : HK P M MM) (hp : ∀ k, 0 ≤ k → k < 589 → P k = P' k) (h4 : M' 8 0 0 4 = M 8 0 0 4) (h19 : ∀ k, M' 19 0 0 k = M 19 0 0 k) : HK P' M' MM := by
  obtain ⟨a, b⟩ := h
  refine ⟨fun z => ?_, fun z => ?_⟩
  · rw [h4] at z
    obtain ⟨p, q, r⟩ := a z
    rw [h4]
    exact ⟨p, fun k k0 k1 => (q k k0 k1).trans (h19 k).symm, fun k k0 k1 => (r k k0 k1).trans (hp k k0 k1)⟩
  · rw [h4] at z
    obtain ⟨p, q, r⟩ := b z
    exact ⟨p, fun k k0 k1 => (q k k0 k1).trans (h19 _).symm, fun k k0 k1 => (r k k0 k1).trans (hp k k0 k1)⟩
def ACP (v : Int) (M MM : NM) : Prop := (0 ≤ v → HK (M 18 0 0) M MM) ∧ (v < 0 → MM = M) ∧ Fo (fun K => K = 8 ∨ K = 19) M MM ∧ F8s 4 M MM
theorem actP {v : Int} {M Ma Mb Mc : NM} {S' : Sl} (a1 : ∀ k, 0 ≤ k → k < 589 → Ma 18 0 0 k = M 17 0 0 k) (a2 : Fo (fun K => K = 8 ∨ K = 18) M Ma) (a3 : F8s 0 M Ma) (g : F8 Ma Mb) (r : RR (Mb 17 0 0) S') (sh : SHo (Mb 17 0 0) S') (k : ACP v Mb Mc) : RR (Mc 17 0 0) S' ∧ SHo (Mc 17 0 0) S' ∧ KPT v M Mc := by
  obtain ⟨k1, k2, k3, k4⟩ := k
  have e17 : Mc 17 = Mb 17 := k3 17 (by decide)
  have e4 : Mb 8 0 0 4 = M 8 0 0 4 := (g.2 0 0 4 (by decide)).trans (a3 0 0 4 (by decide))
  have e6 : Mb 8 0 0 6 = M 8 0 0 6 := (g.2 0 0 6 (by decide)).trans (a3 0 0 6 (by decide))
  have e19 : Mb 19 = M 19 := (g.1 19 (by decide) (by decide)).trans (a2 19 (by decide))
  have e18 : Mb 18 = Ma 18 := g.1 18 (by decide) (by decide)
  rw [e17]
  refine ⟨r, sh, fun h => HK_cg (k1 h) (fun x x0 x1 => by rw [e18]; exact a1 x x0 x1) e4.symm (fun x => by rw [e19]), fun h => by rw [k2 h]; exact ⟨e4, e19⟩, fun K h => ?_, (k4 0 0 6 (by decide)).trans e6⟩
  exact (k3 K (fun z => h (z.elim Or.inl (fun y => Or.inr (Or.inr (Or.inr y)))))).trans ((g.1 K (fun z => h (Or.inr (Or.inl z))) (fun z => h (Or.inl z))).trans (a2 K (fun z => h (z.elim Or.inl (fun y => Or.inr (Or.inr (Or.inl y)))))))
theorem F8_of {M MM : NM} (h : F17 M MM) : F8 M MM := ⟨fun K a _ => h K a, fun j i s _ => by rw [h 8 (by decide)]⟩
section
variable {a a' : Int → Int} {S : Sl}
theorem sh_hold {b n w : Int} (h : SHo a S) (e : a' 4 = a 4) : SHo a' (opHold S b n w).2 := by
  unfold opHold
  by_cases p : ¬ ((0 ≤ b ∧ b < S 1 0 3) ∧ (1 ≤ n ∧ n ≤ 10) ∧ (1 ≤ w ∧ w ≤ 999))
  · rw [cif_t p]; exact SHo_eq h e rfl (fun _ _ _ => Iff.rfl)
  · rw [cif_f p]
    by_cases q : pl S b n = -9
    · rw [cif_t q]; exact SHo_eq h e rfl (fun _ _ _ => Iff.rfl)
    · rw [cif_f q]
      by_cases r : S 5 0 3 = 20
      · rw [cif_t r]; exact SHo_eq h e rfl (fun _ _ _ => Iff.rfl)
      · rw [cif_f r]; exact SHo_eq h e rfl (fun _ _ _ => Iff.rfl)
theorem sh_drop {x : Int} (h : SHo a S) (e : a' 4 = a 4) : SHo a' (opDrop S x).2 := by
  unfold opDrop
  by_cases p : ¬ (0 ≤ x ∧ x < S 5 0 3)
  · rw [cif_t p]; exact SHo_eq h e rfl (fun _ _ _ => Iff.rfl)
  · rw [cif_f p]
    by_cases q : S 3 x 0 ≠ 0
    · rw [cif_t q]; exact SHo_eq h e rfl (fun _ _ _ => Iff.rfl)
    · rw [cif_f q]; exact SHo_eq h e rfl (fun _ _ _ => Iff.rfl)
theorem sh_buy {x : Int} (hT : 0 ≤ S 5 0 4) (h : SHo a S) (e : a' 4 = a 4) : SHo a' (opBuy S x).2 := by
  unfold opBuy
  by_cases p : ¬ (0 ≤ x ∧ x < S 5 0 3)
  · rw [cif_t p]; exact SHo_eq h e rfl (fun _ _ _ => Iff.rfl)
  · rw [cif_f p]
    by_cases q : S 3 x 0 ≠ 0
    · rw [cif_t q]; exact SHo_eq h e rfl (fun _ _ _ => Iff.rfl)
    · rw [cif_f q]
      show a' 4 = sm (fun t => bi (buyS S x 6 t 0 = 3)) (S 5 0 4 + 1).toNat
      have b6 : ∀ t, buyS S x 6 t 0 = st (st (st (st (st S 6 (S 5 0 4) 0 (cif (S 5 0 6 = 0) 0 2)) 6 (S 5 0 4) 1 (S 3 x 1)) 6 (S 5 0 4) 2 (S 3 x 2)) 6 (S 5 0 4) 3 (S 3 x 2 * S 0 (S 3 x 1 / 100) 2)) 6 (S 5 0 4) 4 0 6 t 0 := fun _ => rfl
      have n0 : buyS S x 6 (S 5 0 4) 0 = cif (S 5 0 6 = 0) 0 2 := by rw [b6, st_nes (by decide), st_nes (by decide), st_nes (by decide), st_nes (by decide), st_eq]
      rw [sm_step hT, bi_f (by
        rw [n0]
        by_cases z : S 5 0 6 = 0
        · rw [cif_t z]; decide
        · rw [cif_f z]; decide), Int.add_zero, e, h]
      exact sm_congr (fun t t0 t1 => by rw [b6, st_nei (by omega), st_nei (by omega), st_nei (by omega), st_nei (by omega), st_nei (by omega)])
theorem sh_back {x : Int} (h : SHo a S) (e : a' 4 = a 4) : SHo a' (opBack S x).2 := by
  unfold opBack
  by_cases p : ¬ (0 ≤ x ∧ x < S 5 0 4)
  · rw [cif_t p]; exact SHo_eq h e rfl (fun _ _ _ => Iff.rfl)
  · rw [cif_f p]
    by_cases q : S 6 x 0 ≠ 0
    · rw [cif_t q]; exact SHo_eq h e rfl (fun _ _ _ => Iff.rfl)
    · rw [cif_f q]
      refine SHo_eq h e rfl (fun t _ _ => ?_)
      show st S 6 x 0 1 6 t 0 = 3 ↔ S 6 t 0 = 3
      by_cases z : t = x
      · rw [z, st_eq]; omega
      · rw [st_nei z]
theorem sh_in {x : Int} (h : SHo a S) (e : a' 4 = a 4) : SHo a' (opIn S x).2 := by
  unfold opIn
  by_cases p : ¬ (0 ≤ x ∧ x < S 5 0 4)
  · rw [cif_t p]; exact SHo_eq h e rfl (fun _ _ _ => Iff.rfl)
  · rw [cif_f p]
    by_cases q : S 6 x 0 ≠ 0
    · rw [cif_t q]; exact SHo_eq h e rfl (fun _ _ _ => Iff.rfl)
    · rw [cif_f q]
      refine SHo_eq h e rfl (fun t _ _ => ?_)
      show st S 6 x 0 2 6 t 0 = 3 ↔ S 6 t 0 = 3
      by_cases z : t = x
      · rw [z, st_eq]; omega
      · rw [st_nei z]
theorem sh_pass {x : Int} (h : SHo a S) (e : a' 4 = a 4) : SHo a' (opPass S x).2 := by
  unfold opPass
  by_cases p : ¬ (1 ≤ x ∧ x ≤ 999)
  · rw [cif_t p]; exact SHo_eq h e rfl (fun _ _ _ => Iff.rfl)
  · rw [cif_f p]
    by_cases q : 9999 < S 5 0 5 + x
    · rw [cif_t q]; exact SHo_eq h e rfl (fun _ _ _ => Iff.rfl)
    · rw [cif_f q]
      have o6 : ∀ t s, exN (st S 5 0 5 (S 5 0 5 + x)) (S 5 0 5 + x) (S 5 0 3).toNat 6 t s = S 6 t s := fun t s => exN_o _ _ _ _ (by decide) (fun z => by cases z)
      exact SHo_eq h e (exN_o _ _ _ _ (by decide) (fun z => by cases z)) (fun t _ _ => by
        show exN (st S 5 0 5 (S 5 0 5 + x)) (S 5 0 5 + x) (S 5 0 3).toNat 6 t 0 = 3 ↔ _
        rw [o6])
theorem sh_up {x : Int} (h : SHo a S) (e : a' 4 = a 4) : SHo a' (opUp S x).2 := by
  unfold opUp
  by_cases p : ¬ (0 ≤ x ∧ x < S 1 0 4)
  · rw [cif_t p]; exact SHo_eq h e rfl (fun _ _ _ => Iff.rfl)
  · rw [cif_f p]
    by_cases q : upP S x ∨ ∃ c : Int, 0 ≤ c ∧ c < 600 ∧ andI (S 14 0 c) (shlI 1 x) ≠ 0 ∧ S 13 0 c ≠ 0
    · rw [cif_t q]; exact SHo_eq h e rfl (fun _ _ _ => Iff.rfl)
    · rw [cif_f q]; exact SHo_eq h e rfl (fun _ _ _ => Iff.rfl)
theorem chn_6 : ∀ (k : Nat) (S : Sl) (b t : Int), (∀ y, (chn S b t k).2 6 y 0 = S 6 y 0) ∧ (chn S b t k).2 5 0 4 = S 5 0 4 := by
  intro k
  induction k with
  | zero => intro S b t; exact ⟨fun _ => rfl, rfl⟩
  | succ k ih =>
    intro S b t
    rw [chn]
    by_cases h : t = -9
    · rw [cif_t h]; exact ⟨fun _ => rfl, rfl⟩
    · rw [cif_f h]
      obtain ⟨p, q⟩ := ih (mvS S t b) (S 6 t 1 / 100) (nm (mvS S t b) (S 6 t 1 / 100))
      exact ⟨fun y => (p y).trans ((st_nes (by decide)).trans (st_nes (by decide))), q⟩
theorem sh_chain {x : Int} (h : SHo a S) (e : a' 4 = a 4) : SHo a' (opChain S x).2 := by
  unfold opChain
  by_cases p : S 6 x 0 ≠ 0
  · rw [cif_t p]; exact SHo_eq h e rfl (fun _ _ _ => Iff.rfl)
  · rw [cif_f p]
    by_cases q : upF S (S 6 x 1 / 100) (S 6 x 2) (S 1 0 3).toNat = -9
    · rw [cif_t q]; exact SHo_eq h e rfl (fun _ _ _ => Iff.rfl)
    · rw [cif_f q]
      obtain ⟨u, v⟩ := chn_6 20 S (upF S (S 6 x 1 / 100) (S 6 x 2) (S 1 0 3).toNat) x
      exact SHo_eq h e v (fun t _ _ => by rw [u])
end
section
variable {X : XI}
theorem c_acted {M : NM} (hA : 0 ≤ M 8 0 0 4 ∧ M 8 0 0 4 ≤ 5) {v : Int} : HT X z_X8_acted [.inr (.inr (some (8, 0, 0))), .inl v] M (fun rr MM => rr = some (.inl v) ∧ ACP v M MM) := by
  refine ht_of (e := E_X8_acted) rfl (?_ : EvI X E_X8_acted (0, [some (.inr (.inr (some (8, 0, 0)))), some (.inl v)], [], M) _)
  refine seg_ok 2 (?_ : EvI X E_X8_acted (if v < 0 then 8 else 4, [some (.inr (.inr (some (8, 0, 0)))), some (.inl v)], [], M) _)
  refine ev_if (fun h1 => ?_) (fun h1 => ?_)
  · refine seg_ok 1 (?_ : EvI X E_X8_acted (9, [some (.inr (.inr (some (8, 0, 0)))), some (.inl v)], [.inl v], M) _)
    refine ev_rt (r := some (.inl v)) rfl (?_)
    exact ⟨rfl, fun z => by omega, fun _ => rfl, fun _ _ => rfl, fun _ _ _ _ => rfl⟩
  · refine seg_ok 1 (?_ : EvI X E_X8_acted (5, [some (.inr (.inr (some (8, 0, 0)))), some (.inl v)], [.inr (.inr (some (8, 0, 0)))], M) _)
    refine ev_cl (z := z_X8_keep) (as := [.inr (.inr (some (8, 0, 0)))]) (rest := []) rfl (c_keep hA) ?_
    intro rr M1 hqM1
    obtain ⟨rfl, kM1, bM1, dM1⟩ := hqM1
    show EvI X E_X8_acted (8, [some (.inr (.inr (some (8, 0, 0)))), some (.inl v)], [], M1) _
    refine seg_ok 1 (?_ : EvI X E_X8_acted (9, [some (.inr (.inr (some (8, 0, 0)))), some (.inl v)], [.inl v], M1) _)
    refine ev_rt (r := some (.inl v)) rfl (?_)
    exact ⟨rfl, fun _ => kM1, fun z => by omega, bM1, dM1⟩
theorem c_record {M : NM} (hA : 0 ≤ M 8 0 0 4 ∧ M 8 0 0 4 ≤ 5) : HT X z_X8_record [.inr (.inr (some (8, 0, 0)))] M (fun rr MM => rr = none ∧ HK (M 17 0 0) M MM ∧ Fo (fun K => K = 8 ∨ K = 18 ∨ K = 19) M MM ∧ F8s 4 M MM) := by
  refine ht_of (e := E_X8_record) rfl (?_ : EvI X E_X8_record (0, [some (.inr (.inr (some (8, 0, 0)))), none], [], M) _)
  refine seg_ok 2 (?_ : EvI X E_X8_record (2, [some (.inr (.inr (some (8, 0, 0)))), some (.inl 0)], [], M) _)
  have L2 : ∀ (m2 : Nat) (k : Int) (M1 : NM), 589 - k < (m2 : Int) → (0 ≤ k) → (k ≤ 589) → (∀ k2, 0 ≤ k2 → k2 < k → M1 18 0 0 k2 = M 17 0 0 k2) → (∀ K, K ≠ 18 → M1 K = M K) → EvI X E_X8_record (2, [some (.inr (.inr (some (8, 0, 0)))), some (.inl k)], [], M1) (fun rr MM => rr = none ∧ HK (M 17 0 0) M MM ∧ Fo (fun K => K = 8 ∨ K = 18 ∨ K = 19) M MM ∧ F8s 4 M MM) := by
    intro m2
    induction m2 with
    | zero => intro k M1 hm2 q1 q2 q3 q4; exact absurd hm2 (by omega)
    | succ m2 ih2 =>
      intro k M1 hm2 q1 q2 q3 q4
      refine seg_ok 3 (?_ : EvI X E_X8_record (if k < 589 then 9 else 27, [some (.inr (.inr (some (8, 0, 0)))), some (.inl k)], [], M1) _)
      refine ev_if (fun h6 => ?_) (fun h6 => ?_)
      · refine seg_ok 10 (⟨by omega, by omega, by omega, ?_⟩ : ((0 : Int) ≤ k ∧ k < 589) ∧ ((0 : Int) ≤ k ∧ k < 589) ∧ ((-2147483648 : Int) ≤ (k + 1) ∧ (k + 1) < 2147483648) ∧ EvI X E_X8_record (2, [some (.inr (.inr (some (8, 0, 0)))), some (.inl (k + 1))], [], (wri M1 18 0 0 k (M1 17 0 0 k))) _)
        refine ih2 (k + 1) (wri M1 18 0 0 k (M1 17 0 0 k)) (by omega) (by omega) (by omega) (fun k2 a b => by
      by_cases z : k2 = k
      · rw [z]; exact wri_eq.trans (congrFun (congrFun (congrFun (q4 17 (by decide)) 0) 0) k)
      · exact (wri_nes z).trans (q3 k2 a (by omega))) (fun K h => (wri_K h).trans (q4 K h))
      · refine seg_ok 1 (?_ : EvI X E_X8_record (28, [some (.inr (.inr (some (8, 0, 0)))), some (.inl k)], [.inr (.inr (some (8, 0, 0)))], M1) _)
        refine ev_cl (z := z_X8_keep) (as := [.inr (.inr (some (8, 0, 0)))]) (rest := []) rfl (c_keep (by rw [q4 8 (by decide)]; exact hA)) ?_
        intro rr M2 hqM2
        obtain ⟨rfl, kM2, bM2, dM2⟩ := hqM2
        show EvI X E_X8_record (31, [some (.inr (.inr (some (8, 0, 0)))), some (.inl k)], [], M2) _
        refine ev_rt (r := none) rfl (?_)
        have e8 : M1 8 = M 8 := q4 8 (by decide)
        exact ⟨rfl, HK_cg kM2 (fun k2 a b => q3 k2 a (by omega)) (by rw [e8]) (fun x => by rw [q4 19 (by decide)]), fun K h => (bM2 K (fun z => h (z.elim Or.inl (fun y => Or.inr (Or.inr y))))).trans (q4 K (fun z => h (Or.inr (Or.inl z)))), fun j i s h => (dM2 j i s h).trans (congrFun (congrFun (congrFun e8 j) i) s)⟩
  refine L2 ((589 - 0) + 1 : Int).toNat 0 M (by omega) (by omega) (by omega) (fun k2 a b => by omega) (fun _ _ => rfl)
theorem c_hold {m : Int} {M : NM} {S : Sl} (hW : RW m M S) (hS : SHo (M 17 0 0) S) (hA : 0 ≤ M 8 0 0 4 ∧ M 8 0 0 4 ≤ 5) {b n w : Int} : HT X z_X8_hold [.inr (.inr (some (8, 0, 0))), .inl b, .inl n, .inl w] M (fun rr MM => rr = some (.inl (opHold S b n w).1) ∧ RR (MM 17 0 0) (opHold S b n w).2 ∧ SHo (MM 17 0 0) (opHold S b n w).2 ∧ KPT (opHold S b n w).1 M MM) := by
  refine ht_of (e := E_X8_hold) rfl (?_ : EvI X E_X8_hold (0, [some (.inr (.inr (some (8, 0, 0)))), some (.inl b), some (.inl n), some (.inl w)], [], M) _)
  refine seg_ok 1 (?_ : EvI X E_X8_hold (1, [some (.inr (.inr (some (8, 0, 0)))), some (.inl b), some (.inl n), some (.inl w)], [.inr (.inr (some (8, 0, 0)))], M) _)
  refine ev_cl (z := z_X8_aside) (as := [.inr (.inr (some (8, 0, 0)))]) (rest := []) rfl c_aside ?_
  intro rr M1 hqM1
  obtain ⟨rfl, aM1, bM1, dM1⟩ := hqM1
  have hWM1 : RW m M1 S := RW_fr (bM1 17 (by decide)) hW
  have hAM1 : 0 ≤ M1 8 0 0 4 ∧ M1 8 0 0 4 ≤ 5 := by rw [dM1 0 0 4 (by decide)]; exact hA
  show EvI X E_X8_hold (4, [some (.inr (.inr (some (8, 0, 0)))), some (.inl b), some (.inl n), some (.inl w)], [], M1) _
  refine seg_ok 5 (?_ : EvI X E_X8_hold (9, [some (.inr (.inr (some (8, 0, 0)))), some (.inl b), some (.inl n), some (.inl w)], [.inl w, .inl n, .inl b, .inr (.inr (some (8, 0, 0))), .inr (.inr (some (8, 0, 0)))], M1) _)
  refine ev_cl (z := z_X8_holds) (as := [.inr (.inr (some (8, 0, 0))), .inl b, .inl n, .inl w]) (rest := [.inr (.inr (some (8, 0, 0)))]) rfl (c_holds hWM1) ?_
  intro rr M2 hqM2
  obtain ⟨rfl, rM2, uM2, gM2⟩ := hqM2
  have hAM2 : 0 ≤ M2 8 0 0 4 ∧ M2 8 0 0 4 ≤ 5 := by rw [gM2 8 (by decide)]; exact hAM1
  show EvI X E_X8_hold (12, [some (.inr (.inr (some (8, 0, 0)))), some (.inl b), some (.inl n), some (.inl w)], [.inl ((opHold S b n w).1), .inr (.inr (some (8, 0, 0)))], M2) _
  refine ev_cl (z := z_X8_acted) (as := [.inr (.inr (some (8, 0, 0))), .inl ((opHold S b n w).1)]) (rest := []) rfl (c_acted hAM2) ?_
  intro rr M3 hqM3
  obtain ⟨rfl, kM3⟩ := hqM3
  show EvI X E_X8_hold (15, [some (.inr (.inr (some (8, 0, 0)))), some (.inl b), some (.inl n), some (.inl w)], [.inl ((opHold S b n w).1)], M3) _
  refine ev_rt (r := some (.inl ((opHold S b n w).1))) rfl (?_)
  exact ⟨rfl, actP aM1 bM1 dM1 (F8_of gM2) rM2 (sh_hold hS (uM2.trans (congrFun (congrFun (congrFun (bM1 17 (by decide)) 0) 0) 4))) kM3⟩
theorem c_buy {m : Int} {M : NM} {S : Sl} (hW : RW m M S) (hS : SHo (M 17 0 0) S) (hA : 0 ≤ M 8 0 0 4 ∧ M 8 0 0 4 ≤ 5) {x : Int} : HT X z_X8_buy [.inr (.inr (some (8, 0, 0))), .inl x] M (fun rr MM => rr = some (.inl (opBuy S x).1) ∧ RR (MM 17 0 0) (opBuy S x).2 ∧ SHo (MM 17 0 0) (opBuy S x).2 ∧ KPT (opBuy S x).1 M MM) := by
  refine ht_of (e := E_X8_buy) rfl (?_ : EvI X E_X8_buy (0, [some (.inr (.inr (some (8, 0, 0)))), some (.inl x)], [], M) _)
  refine seg_ok 1 (?_ : EvI X E_X8_buy (1, [some (.inr (.inr (some (8, 0, 0)))), some (.inl x)], [.inr (.inr (some (8, 0, 0)))], M) _)
  refine ev_cl (z := z_X8_aside) (as := [.inr (.inr (some (8, 0, 0)))]) (rest := []) rfl c_aside ?_
  intro rr M1 hqM1
  obtain ⟨rfl, aM1, bM1, dM1⟩ := hqM1
  have hWM1 : RW m M1 S := RW_fr (bM1 17 (by decide)) hW
  have hAM1 : 0 ≤ M1 8 0 0 4 ∧ M1 8 0 0 4 ≤ 5 := by rw [dM1 0 0 4 (by decide)]; exact hA
  show EvI X E_X8_buy (4, [some (.inr (.inr (some (8, 0, 0)))), some (.inl x)], [], M1) _
  refine seg_ok 3 (?_ : EvI X E_X8_buy (7, [some (.inr (.inr (some (8, 0, 0)))), some (.inl x)], [.inl x, .inr (.inr (some (8, 0, 0))), .inr (.inr (some (8, 0, 0)))], M1) _)
  refine ev_cl (z := z_X8_buys) (as := [.inr (.inr (some (8, 0, 0))), .inl x]) (rest := [.inr (.inr (some (8, 0, 0)))]) rfl (c_buys hWM1) ?_
  intro rr M2 hqM2
  obtain ⟨rfl, rM2, uM2, gM2⟩ := hqM2
  have hAM2 : 0 ≤ M2 8 0 0 4 ∧ M2 8 0 0 4 ≤ 5 := by rw [gM2 8 (by decide)]; exact hAM1
  show EvI X E_X8_buy (10, [some (.inr (.inr (some (8, 0, 0)))), some (.inl x)], [.inl ((opBuy S x).1), .inr (.inr (some (8, 0, 0)))], M2) _
  refine ev_cl (z := z_X8_acted) (as := [.inr (.inr (some (8, 0, 0))), .inl ((opBuy S x).1)]) (rest := []) rfl (c_acted hAM2) ?_
  intro rr M3 hqM3
  obtain ⟨rfl, kM3⟩ := hqM3
  show EvI X E_X8_buy (13, [some (.inr (.inr (some (8, 0, 0)))), some (.inl x)], [.inl ((opBuy S x).1)], M3) _
  refine ev_rt (r := some (.inl ((opBuy S x).1))) rfl (?_)
  exact ⟨rfl, actP aM1 bM1 dM1 (F8_of gM2) rM2 (sh_buy hW.2.1.2.2.2.2.2.1.1 hS (uM2.trans (congrFun (congrFun (congrFun (bM1 17 (by decide)) 0) 0) 4))) kM3⟩
theorem c_drop {m : Int} {M : NM} {S : Sl} (hW : RW m M S) (hS : SHo (M 17 0 0) S) (hA : 0 ≤ M 8 0 0 4 ∧ M 8 0 0 4 ≤ 5) {x : Int} : HT X z_X8_drop [.inr (.inr (some (8, 0, 0))), .inl x] M (fun rr MM => rr = some (.inl (opDrop S x).1) ∧ RR (MM 17 0 0) (opDrop S x).2 ∧ SHo (MM 17 0 0) (opDrop S x).2 ∧ KPT (opDrop S x).1 M MM) := by
  refine ht_of (e := E_X8_drop) rfl (?_ : EvI X E_X8_drop (0, [some (.inr (.inr (some (8, 0, 0)))), some (.inl x)], [], M) _)
  refine seg_ok 1 (?_ : EvI X E_X8_drop (1, [some (.inr (.inr (some (8, 0, 0)))), some (.inl x)], [.inr (.inr (some (8, 0, 0)))], M) _)
  refine ev_cl (z := z_X8_aside) (as := [.inr (.inr (some (8, 0, 0)))]) (rest := []) rfl c_aside ?_
  intro rr M1 hqM1
  obtain ⟨rfl, aM1, bM1, dM1⟩ := hqM1
  have hWM1 : RW m M1 S := RW_fr (bM1 17 (by decide)) hW
  have hAM1 : 0 ≤ M1 8 0 0 4 ∧ M1 8 0 0 4 ≤ 5 := by rw [dM1 0 0 4 (by decide)]; exact hA
  show EvI X E_X8_drop (4, [some (.inr (.inr (some (8, 0, 0)))), some (.inl x)], [], M1) _
  refine seg_ok 3 (?_ : EvI X E_X8_drop (7, [some (.inr (.inr (some (8, 0, 0)))), some (.inl x)], [.inl x, .inr (.inr (some (8, 0, 0))), .inr (.inr (some (8, 0, 0)))], M1) _)
  refine ev_cl (z := z_X8_drops) (as := [.inr (.inr (some (8, 0, 0))), .inl x]) (rest := [.inr (.inr (some (8, 0, 0)))]) rfl (c_drops hWM1) ?_
  intro rr M2 hqM2
  obtain ⟨rfl, rM2, uM2, gM2⟩ := hqM2
  have hAM2 : 0 ≤ M2 8 0 0 4 ∧ M2 8 0 0 4 ≤ 5 := by rw [gM2 8 (by decide)]; exact hAM1
  show EvI X E_X8_drop (10, [some (.inr (.inr (some (8, 0, 0)))), some (.inl x)], [.inl ((opDrop S x).1), .inr (.inr (some (8, 0, 0)))], M2) _
  refine ev_cl (z := z_X8_acted) (as := [.inr (.inr (some (8, 0, 0))), .inl ((opDrop S x).1)]) (rest := []) rfl (c_acted hAM2) ?_
  intro rr M3 hqM3
  obtain ⟨rfl, kM3⟩ := hqM3
  show EvI X E_X8_drop (13, [some (.inr (.inr (some (8, 0, 0)))), some (.inl x)], [.inl ((opDrop S x).1)], M3) _
  refine ev_rt (r := some (.inl ((opDrop S x).1))) rfl (?_)
  exact ⟨rfl, actP aM1 bM1 dM1 (F8_of gM2) rM2 (sh_drop hS (uM2.trans (congrFun (congrFun (congrFun (bM1 17 (by decide)) 0) 0) 4))) kM3⟩
theorem c_giveBack {m : Int} {M : NM} {S : Sl} (hW : RW m M S) (hS : SHo (M 17 0 0) S) (hA : 0 ≤ M 8 0 0 4 ∧ M 8 0 0 4 ≤ 5) {x : Int} : HT X z_X8_giveBack [.inr (.inr (some (8, 0, 0))), .inl x] M (fun rr MM => rr = some (.inl (opBack S x).1) ∧ RR (MM 17 0 0) (opBack S x).2 ∧ SHo (MM 17 0 0) (opBack S x).2 ∧ KPT (opBack S x).1 M MM) := by
  refine ht_of (e := E_X8_giveBack) rfl (?_ : EvI X E_X8_giveBack (0, [some (.inr (.inr (some (8, 0, 0)))), some (.inl x)], [], M) _)
  refine seg_ok 1 (?_ : EvI X E_X8_giveBack (1, [some (.inr (.inr (some (8, 0, 0)))), some (.inl x)], [.inr (.inr (some (8, 0, 0)))], M) _)
  refine ev_cl (z := z_X8_aside) (as := [.inr (.inr (some (8, 0, 0)))]) (rest := []) rfl c_aside ?_
  intro rr M1 hqM1
  obtain ⟨rfl, aM1, bM1, dM1⟩ := hqM1
  have hWM1 : RW m M1 S := RW_fr (bM1 17 (by decide)) hW
  have hAM1 : 0 ≤ M1 8 0 0 4 ∧ M1 8 0 0 4 ≤ 5 := by rw [dM1 0 0 4 (by decide)]; exact hA
  show EvI X E_X8_giveBack (4, [some (.inr (.inr (some (8, 0, 0)))), some (.inl x)], [], M1) _
  refine seg_ok 3 (?_ : EvI X E_X8_giveBack (7, [some (.inr (.inr (some (8, 0, 0)))), some (.inl x)], [.inl x, .inr (.inr (some (8, 0, 0))), .inr (.inr (some (8, 0, 0)))], M1) _)
  refine ev_cl (z := z_X8_givesBack) (as := [.inr (.inr (some (8, 0, 0))), .inl x]) (rest := [.inr (.inr (some (8, 0, 0)))]) rfl (c_givesBack hWM1) ?_
  intro rr M2 hqM2
  obtain ⟨rfl, rM2, uM2, gM2⟩ := hqM2
  have hAM2 : 0 ≤ M2 8 0 0 4 ∧ M2 8 0 0 4 ≤ 5 := by rw [gM2 8 (by decide)]; exact hAM1
  show EvI X E_X8_giveBack (10, [some (.inr (.inr (some (8, 0, 0)))), some (.inl x)], [.inl ((opBack S x).1), .inr (.inr (some (8, 0, 0)))], M2) _
  refine ev_cl (z := z_X8_acted) (as := [.inr (.inr (some (8, 0, 0))), .inl ((opBack S x).1)]) (rest := []) rfl (c_acted hAM2) ?_
  intro rr M3 hqM3
  obtain ⟨rfl, kM3⟩ := hqM3
  show EvI X E_X8_giveBack (13, [some (.inr (.inr (some (8, 0, 0)))), some (.inl x)], [.inl ((opBack S x).1)], M3) _
  refine ev_rt (r := some (.inl ((opBack S x).1))) rfl (?_)
  exact ⟨rfl, actP aM1 bM1 dM1 (F8_of gM2) rM2 (sh_back hS (uM2.trans (congrFun (congrFun (congrFun (bM1 17 (by decide)) 0) 0) 4))) kM3⟩
theorem c_comeIn {m : Int} {M : NM} {S : Sl} (hW : RW m M S) (hS : SHo (M 17 0 0) S) (hA : 0 ≤ M 8 0 0 4 ∧ M 8 0 0 4 ≤ 5) (hm : m + 1 ≤ 62000) {x : Int} : HT X z_X8_comeIn [.inr (.inr (some (8, 0, 0))), .inl x] M (fun rr MM => rr = some (.inl (opIn S x).1) ∧ RR (MM 17 0 0) (opIn S x).2 ∧ SHo (MM 17 0 0) (opIn S x).2 ∧ KPT (opIn S x).1 M MM) := by
  refine ht_of (e := E_X8_comeIn) rfl (?_ : EvI X E_X8_comeIn (0, [some (.inr (.inr (some (8, 0, 0)))), some (.inl x)], [], M) _)
  refine seg_ok 1 (?_ : EvI X E_X8_comeIn (1, [some (.inr (.inr (some (8, 0, 0)))), some (.inl x)], [.inr (.inr (some (8, 0, 0)))], M) _)
  refine ev_cl (z := z_X8_aside) (as := [.inr (.inr (some (8, 0, 0)))]) (rest := []) rfl c_aside ?_
  intro rr M1 hqM1
  obtain ⟨rfl, aM1, bM1, dM1⟩ := hqM1
  have hWM1 : RW m M1 S := RW_fr (bM1 17 (by decide)) hW
  have hAM1 : 0 ≤ M1 8 0 0 4 ∧ M1 8 0 0 4 ≤ 5 := by rw [dM1 0 0 4 (by decide)]; exact hA
  show EvI X E_X8_comeIn (4, [some (.inr (.inr (some (8, 0, 0)))), some (.inl x)], [], M1) _
  refine seg_ok 3 (?_ : EvI X E_X8_comeIn (7, [some (.inr (.inr (some (8, 0, 0)))), some (.inl x)], [.inl x, .inr (.inr (some (8, 0, 0))), .inr (.inr (some (8, 0, 0)))], M1) _)
  refine ev_cl (z := z_X8_comes) (as := [.inr (.inr (some (8, 0, 0))), .inl x]) (rest := [.inr (.inr (some (8, 0, 0)))]) rfl (c_comes hWM1 hm) ?_
  intro rr M2 hqM2
  obtain ⟨rfl, rM2, uM2, gM2⟩ := hqM2
  have hAM2 : 0 ≤ M2 8 0 0 4 ∧ M2 8 0 0 4 ≤ 5 := by rw [gM2 8 (by decide)]; exact hAM1
  show EvI X E_X8_comeIn (10, [some (.inr (.inr (some (8, 0, 0)))), some (.inl x)], [.inl ((opIn S x).1), .inr (.inr (some (8, 0, 0)))], M2) _
  refine ev_cl (z := z_X8_acted) (as := [.inr (.inr (some (8, 0, 0))), .inl ((opIn S x).1)]) (rest := []) rfl (c_acted hAM2) ?_
  intro rr M3 hqM3
  obtain ⟨rfl, kM3⟩ := hqM3
  show EvI X E_X8_comeIn (13, [some (.inr (.inr (some (8, 0, 0)))), some (.inl x)], [.inl ((opIn S x).1)], M3) _
  refine ev_rt (r := some (.inl ((opIn S x).1))) rfl (?_)
  exact ⟨rfl, actP aM1 bM1 dM1 (F8_of gM2) rM2 (sh_in hS (uM2.trans (congrFun (congrFun (congrFun (bM1 17 (by decide)) 0) 0) 4))) kM3⟩
theorem c_pass {m : Int} {M : NM} {S : Sl} (hW : RW m M S) (hS : SHo (M 17 0 0) S) (hA : 0 ≤ M 8 0 0 4 ∧ M 8 0 0 4 ≤ 5) {x : Int} : HT X z_X8_pass [.inr (.inr (some (8, 0, 0))), .inl x] M (fun rr MM => rr = some (.inl (opPass S x).1) ∧ RR (MM 17 0 0) (opPass S x).2 ∧ SHo (MM 17 0 0) (opPass S x).2 ∧ KPT (opPass S x).1 M MM) := by
  refine ht_of (e := E_X8_pass) rfl (?_ : EvI X E_X8_pass (0, [some (.inr (.inr (some (8, 0, 0)))), some (.inl x)], [], M) _)
  refine seg_ok 1 (?_ : EvI X E_X8_pass (1, [some (.inr (.inr (some (8, 0, 0)))), some (.inl x)], [.inr (.inr (some (8, 0, 0)))], M) _)
  refine ev_cl (z := z_X8_aside) (as := [.inr (.inr (some (8, 0, 0)))]) (rest := []) rfl c_aside ?_
  intro rr M1 hqM1
  obtain ⟨rfl, aM1, bM1, dM1⟩ := hqM1
  have hWM1 : RW m M1 S := RW_fr (bM1 17 (by decide)) hW
  have hAM1 : 0 ≤ M1 8 0 0 4 ∧ M1 8 0 0 4 ≤ 5 := by rw [dM1 0 0 4 (by decide)]; exact hA
  show EvI X E_X8_pass (4, [some (.inr (.inr (some (8, 0, 0)))), some (.inl x)], [], M1) _
  refine seg_ok 3 (?_ : EvI X E_X8_pass (7, [some (.inr (.inr (some (8, 0, 0)))), some (.inl x)], [.inl x, .inr (.inr (some (8, 0, 0))), .inr (.inr (some (8, 0, 0)))], M1) _)
  refine ev_cl (z := z_X8_passes) (as := [.inr (.inr (some (8, 0, 0))), .inl x]) (rest := [.inr (.inr (some (8, 0, 0)))]) rfl (c_passes hWM1) ?_
  intro rr M2 hqM2
  obtain ⟨rfl, rM2, uM2, gM2⟩ := hqM2
  have hAM2 : 0 ≤ M2 8 0 0 4 ∧ M2 8 0 0 4 ≤ 5 := by rw [gM2 8 (by decide)]; exact hAM1
  show EvI X E_X8_pass (10, [some (.inr (.inr (some (8, 0, 0)))), some (.inl x)], [.inl ((opPass S x).1), .inr (.inr (some (8, 0, 0)))], M2) _
  refine ev_cl (z := z_X8_acted) (as := [.inr (.inr (some (8, 0, 0))), .inl ((opPass S x).1)]) (rest := []) rfl (c_acted hAM2) ?_
  intro rr M3 hqM3
  obtain ⟨rfl, kM3⟩ := hqM3
  show EvI X E_X8_pass (13, [some (.inr (.inr (some (8, 0, 0)))), some (.inl x)], [.inl ((opPass S x).1)], M3) _
  refine ev_rt (r := some (.inl ((opPass S x).1))) rfl (?_)
  exact ⟨rfl, actP aM1 bM1 dM1 (F8_of gM2) rM2 (sh_pass hS (uM2.trans (congrFun (congrFun (congrFun (bM1 17 (by decide)) 0) 0) 4))) kM3⟩
theorem c_putUp {m : Int} {M : NM} {S : Sl} (hW : RW m M S) (hS : SHo (M 17 0 0) S) (hA : 0 ≤ M 8 0 0 4 ∧ M 8 0 0 4 ≤ 5) {x : Int} : HT X z_X8_putUp [.inr (.inr (some (8, 0, 0))), .inl x] M (fun rr MM => rr = some (.inl (opUp S x).1) ∧ RR (MM 17 0 0) (opUp S x).2 ∧ SHo (MM 17 0 0) (opUp S x).2 ∧ KPT (opUp S x).1 M MM) := by
  refine ht_of (e := E_X8_putUp) rfl (?_ : EvI X E_X8_putUp (0, [some (.inr (.inr (some (8, 0, 0)))), some (.inl x)], [], M) _)
  refine seg_ok 1 (?_ : EvI X E_X8_putUp (1, [some (.inr (.inr (some (8, 0, 0)))), some (.inl x)], [.inr (.inr (some (8, 0, 0)))], M) _)
  refine ev_cl (z := z_X8_aside) (as := [.inr (.inr (some (8, 0, 0)))]) (rest := []) rfl c_aside ?_
  intro rr M1 hqM1
  obtain ⟨rfl, aM1, bM1, dM1⟩ := hqM1
  have hWM1 : RW m M1 S := RW_fr (bM1 17 (by decide)) hW
  have hAM1 : 0 ≤ M1 8 0 0 4 ∧ M1 8 0 0 4 ≤ 5 := by rw [dM1 0 0 4 (by decide)]; exact hA
  show EvI X E_X8_putUp (4, [some (.inr (.inr (some (8, 0, 0)))), some (.inl x)], [], M1) _
  refine seg_ok 3 (?_ : EvI X E_X8_putUp (7, [some (.inr (.inr (some (8, 0, 0)))), some (.inl x)], [.inl x, .inr (.inr (some (8, 0, 0))), .inr (.inr (some (8, 0, 0)))], M1) _)
  refine ev_cl (z := z_X8_puts) (as := [.inr (.inr (some (8, 0, 0))), .inl x]) (rest := [.inr (.inr (some (8, 0, 0)))]) rfl (c_puts hWM1) ?_
  intro rr M2 hqM2
  obtain ⟨rfl, rM2, uM2, gM2⟩ := hqM2
  have hAM2 : 0 ≤ M2 8 0 0 4 ∧ M2 8 0 0 4 ≤ 5 := by rw [gM2 8 (by decide)]; exact hAM1
  show EvI X E_X8_putUp (10, [some (.inr (.inr (some (8, 0, 0)))), some (.inl x)], [.inl ((opUp S x).1), .inr (.inr (some (8, 0, 0)))], M2) _
  refine ev_cl (z := z_X8_acted) (as := [.inr (.inr (some (8, 0, 0))), .inl ((opUp S x).1)]) (rest := []) rfl (c_acted hAM2) ?_
  intro rr M3 hqM3
  obtain ⟨rfl, kM3⟩ := hqM3
  show EvI X E_X8_putUp (13, [some (.inr (.inr (some (8, 0, 0)))), some (.inl x)], [.inl ((opUp S x).1)], M3) _
  refine ev_rt (r := some (.inl ((opUp S x).1))) rfl (?_)
  exact ⟨rfl, actP aM1 bM1 dM1 (F8_of gM2) rM2 (sh_up hS (uM2.trans (congrFun (congrFun (congrFun (bM1 17 (by decide)) 0) 0) 4))) kM3⟩
end
