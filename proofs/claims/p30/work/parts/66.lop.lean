/-! 66: the law: what a call of the class leaves of the law's world -/
section
variable {v : Int} {A M1 : NM} {S Z : Sl}
theorem nk {K : Nat} (h : 17 ≤ K) : ¬ stK K := by
  unfold stK
  omega
theorem RL_kc (k : KPC v A M1) (h : RLw A S) : RLw M1 S := RL_cg h (fun K a _ => k.1 K (nk a) (by omega))
theorem Rg_kc (k : KPC v A M1) (h : Rg A) : Rg M1 := by
  obtain ⟨-, -, -, k4, k5⟩ := k
  unfold Rg at *
  rcases Int.lt_or_le v 0 with z | z
  · rw [k4 z]; exact h
  · rcases Int.lt_or_le (A 2 0 0 2) 5 with y | y
    · obtain ⟨a, b⟩ := (k5 z).1 y
      rw [a, b]
      exact ⟨h.1, by omega⟩
    · obtain ⟨a, b⟩ := (k5 z).2 y
      rw [a, b]
      exact ⟨by omega, h.2⟩
theorem u_kc (k : KPC v A M1) : M1 17 9 0 4 = A 17 9 0 4 := by rw [k.1 17 (nk (by decide)) (by decide)]
theorem fail_sl (k : KPC v A M1) (hv : v < 0) (e : ∀ K i s, stK K → M1 K 0 i s = Z K i s) (hs : sl A 0 = Z) : sl M1 0 = Z := by
  funext K i s
  by_cases h : stK K
  · exact e K i s h
  · have e2 := congrFun (congrFun (congrFun hs K) i) s
    rw [← e2]
    by_cases h2 : K = 2
    · subst h2
      show M1 2 0 i s = A 2 0 i s
      rw [k.2.2.2.1 hv]
    · show M1 K 0 i s = A K 0 i s
      rw [k.1 K h h2]
theorem Rg_w {K : Nat} {i p x : Int} (h : Rg A) : Rg (wri A K 9 i p x) := by
  have e : ∀ s, wri A K 9 i p x 2 0 0 s = A 2 0 0 s := fun s => wri_j (by decide)
  unfold Rg at *
  rw [e, e]
  exact h
theorem Rg_F9 (h : Rg A) (f : F9 A M1) : Rg M1 := by
  unfold Rg at *
  rw [f 2 0 0 1 (by decide), f 2 0 0 2 (by decide)]
  exact h
theorem sl_w9 {K : Nat} {i p x : Int} (h : sl A 0 = Z) : sl (wri A K 9 i p x) 0 = Z := by
  rw [← h]
  funext K' i' s'
  exact wri_j (by decide)
theorem sl_F9 (h : sl A 0 = Z) (f : F9 A M1) : sl M1 0 = Z := (F9_sl f (by decide)).trans h
theorem u9_n {K : Nat} {j i p w x : Int} (hk : K ≠ 17) (h : A 17 9 0 4 = x) : wri A K j i p w 17 9 0 4 = x := by
  rw [wri_K (Ne.symm hk)]
  exact h
theorem u9_s {j i p w x : Int} (hp : (4 : Int) ≠ p) (h : A 17 9 0 4 = x) : wri A 17 j i p w 17 9 0 4 = x := (wri_nes hp).trans h
theorem Wfin {m : Int} (R : RLw A S) (hI : Inv m S) (hB : BB S) (hS : SHo (A 17 9 0) S) (e : ∀ K i s, stK K → sl A 0 K i s = S K i s) (rg : Rg A) : Wp m A :=
  ⟨⟨RL_st R e, Inv_SE hI (SE_cell e), BB_st hB e⟩, SHo_eq hS rfl (e 5 0 4 stK_5) (fun t _ _ => by rw [e 6 t 0 stK_6]), rg⟩
theorem Wp_up {m m2 : Int} {M : NM} (h : Wp m M) (h1 : m ≤ m2) (h2 : m2 ≤ 62000) : Wp m2 M := ⟨⟨h.1.1, Inv_up1 h.1.2.1 h1 h2, h.1.2.2⟩, h.2⟩
theorem sh_u {M : NM} (h : SHo (M 17 9 0) S) (e : A 17 9 0 4 = M 17 9 0 4) : SHo (A 17 9 0) S := SHo_eq h e rfl (fun _ _ _ => Iff.rfl)
theorem BC3_2 {m m' : Int} {S' : Sl} (hI : Inv m S) (hB : BB S) {f n : Int} (h : HO S f n) (hI' : Inv m' S') : BC3 S' f n := fun c c0 c1 => by
  have q := BC3_of hI hB h c c0 c1
  have p := hI'.2.2.1 c (by omega) (by omega)
  exact ⟨q.1, p.1, p.2.1⟩
theorem BC3_st {K : Nat} {i s w f n : Int} (h1 : K ≠ 13) (h2 : K ≠ 14) (h : BC3 S f n) : BC3 (st S K i s w) f n := fun c c0 c1 => by
  have e1 : st S K i s w 13 0 c = S 13 0 c := if_neg (fun z => h1 z.1.symm)
  have e2 : st S K i s w 14 0 c = S 14 0 c := if_neg (fun z => h2 z.1.symm)
  rw [e1, e2]
  exact h c c0 c1
theorem nT_lt2 {m : Int} (hI : Inv m S) {x : Int} (hx : 0 ≤ x ∧ x < S 5 0 3) (h0 : S 3 x 0 = 0) : S 5 0 4 < S 5 0 3 := by
  have hc := hI.2.2.2.2.2.2.2
  have hi := hI.1.2.2.2.2.1
  have e : sm (fun h => cif (h = x) 1 (bi (S 3 h 0 = 1))) (S 5 0 3).toNat = sm (fun h => bi (S 3 h 0 = 1)) (S 5 0 3).toNat - bi (S 3 x 0 = 1) + cif (x = x) 1 (bi (S 3 x 0 = 1)) := sm_upd (f := fun h => bi (S 3 h 0 = 1)) (g := fun h => cif (h = x) 1 (bi (S 3 h 0 = 1))) (k := x) (n := (S 5 0 3).toNat) hx.1 (by omega) (fun i a b c => cif_f c)
  rw [cif_t rfl] at e
  have e2 := sm_bnd (f := fun h => cif (h = x) 1 (bi (S 3 h 0 = 1))) (c := 1) (fun k => by
    by_cases q : k = x
    · rw [cif_t q]; omega
    · rw [cif_f q]; exact ⟨bi_ge _, bi_le _⟩) (S 5 0 3).toNat
  rw [bi_f (by omega : ¬ S 3 x 0 = 1)] at e
  omega
theorem buy_ord {T5 : Sl} {h f n d x y z : Int} : st (st (st (bec (st T5 5 0 7 z) f n d) 3 h 0 1) 3 h 4 x) 5 0 4 y = bec (st (st (st (st T5 3 h 0 1) 3 h 4 x) 5 0 7 z) 5 0 4 y) f n d := by
  rw [st_bec (S := T5) (K := 5) (s := 7) (by decide), st_bec (S := st (st (st T5 3 h 0 1) 3 h 4 x) 5 0 7 z) (by decide), st_bec (S := st (st T5 3 h 0 1) 3 h 4 x) (by decide), st_bec (S := st T5 3 h 0 1) (by decide), st_bec (S := T5) (K := 3) (by decide)]
  rw [st_comm (S := bec T5 f n d) (K := 5) (i := 0) (s := 7) (v := z) (K' := 3) (i' := h) (s' := 0) (v' := 1) (fun q => absurd q.1 (by decide)), st_comm (S := st (bec T5 f n d) 3 h 0 1) (K := 5) (i := 0) (s := 7) (v := z) (K' := 3) (i' := h) (s' := 4) (v' := x) (fun q => absurd q.1 (by decide))]
theorem buyS_law {h c d : Int} (hc : cif (S 5 0 6 = 0) 0 2 = c) (hd : cif (S 5 0 6 = 0) 2 3 = d) : buyS S h = bec (st (st (st (st (st (st (st (st (st S 6 (S 5 0 4) 0 c) 6 (S 5 0 4) 1 (S 3 h 1)) 6 (S 5 0 4) 2 (S 3 h 2)) 6 (S 5 0 4) 3 (S 3 h 2 * S 0 (S 3 h 1 / 100) 2)) 6 (S 5 0 4) 4 0) 3 h 0 1) 3 h 4 (S 5 0 4)) 5 0 7 (S 5 0 7 + S 3 h 2 * S 0 (S 3 h 1 / 100) 2)) 5 0 4 (S 5 0 4 + 1)) (S 3 h 1) (S 3 h 2) d := by
  subst hc
  subst hd
  exact buy_ord
theorem opChain_no {t : Int} (h : S 6 t 0 ≠ 0 ∨ upF S (S 6 t 1 / 100) (S 6 t 2) (S 1 0 3).toNat = -9) : opChain S t = (0, S) := by
  unfold opChain
  by_cases q : S 6 t 0 ≠ 0
  · exact cif_t q
  · rw [cif_f q]
    exact cif_t (h.resolve_left q)
theorem opUpg_no {t : Int} (ht : 0 ≤ t ∧ t < S 5 0 4) (h : S 6 t 0 ≠ 0 ∨ upF S (S 6 t 1 / 100) (S 6 t 2) (S 1 0 3).toNat = -9) : opUpg S t = (-2, S) := by
  unfold opUpg
  rw [cif_f (fun z => z ht), opChain_no h]
  exact cif_t rfl
end
