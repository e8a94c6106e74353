/-! 49: the reference: run -/
theorem sh_ord {m : Int} {S : Sl} (hI : Inv m S) {a a' : Int → Int} {T : Int → Int} {L s : Int} (h : SHo a S) (e : a' 4 = a 4) : SHo a' (ordR T L s S).2 := by
  have k : SHo a' S := by unfold SHo at *; rw [e, h]
  unfold ordR
  exact cif_Q (Q := fun p : Int × Sl => SHo a' p.2) (fun _ => k) fun _ => cif_Q (Q := fun p : Int × Sl => SHo a' p.2) (fun _ => k) fun _ => cif_Q (Q := fun p : Int × Sl => SHo a' p.2) (fun _ => k) fun _ => cif_Q (Q := fun p : Int × Sl => SHo a' p.2) (fun _ => k) fun _ => cif_Q (Q := fun p : Int × Sl => SHo a' p.2) (fun _ => k) fun _ => sh_op hI h e
theorem HK_mm {P : Int → Int} {M MM MM' : NM} (h : HK P M MM) (h4 : MM' 8 0 0 4 = MM 8 0 0 4) (h19 : MM' 19 = MM 19) : HK P M MM' := by
  unfold HK at *
  rw [h4, h19]; exact h
/-- the loop of run -/
def RJ (T : Int → Int) (L m : Int) (P : Int × Sl) (M1 : NM) (n f s d : Int) (fu : Nat) (S3 : Sl) (M3 : NM) : Prop := 0 ≤ n ∧ (f = -9 → ((0 ≤ s ∧ s ≤ L) ∧ n ≤ s ∧ L - s ≤ (fu : Int) ∧ d = L - s + 1) ∧ (M3 8 0 0 8 = s ∧ M3 8 0 0 9 = tkE T L s ∧ M3 8 0 0 10 = srt T L s) ∧ RR (M3 17 0 0) S3 ∧ Inv (m + n) S3 ∧ SHo (M3 17 0 0) S3 ∧ P = prgN T L fu s S3 n) ∧ (f ≠ -9 → (0 ≤ f ∧ f ≤ L) ∧ P.1 = -1000 - f ∧ d = 0) ∧ (∀ x, x ≠ 8 → x ≠ 9 → x ≠ 10 → M3 8 0 0 x = M1 8 0 0 x) ∧ ∀ K, K ≠ 8 → K ≠ 17 → K ≠ 21 → M3 K = M1 K
theorem RJ_ok {T : Int → Int} {L m : Int} {P : Int × Sl} {M1 M3 M4 M5 : NM} {n f f' s d : Int} {fu : Nat} {S3 : Sl} {rr : Option U} (hm : m + 120 ≤ 62000) (hL2 : 0 ≤ L ∧ L ≤ 120) (j : RJ T L m P M1 n f s d fu S3 M3) (hf : f = -9) (hs : s < L) (ho : (ordR T L s S3).1 = -1) (hq : RQ T L M3 S3 s rr M4) (q1 : M5 8 0 0 8 = sk T L (M4 8 0 0 9)) (q2 : M5 8 0 0 9 = tkE T L (sk T L (M4 8 0 0 9))) (q3 : M5 8 0 0 10 = srt T L (sk T L (M4 8 0 0 9))) (q4 : ∀ K, K ≠ 8 → M5 K = M4 K) (q5 : ∀ x, x ≠ 8 → x ≠ 9 → x ≠ 10 → M5 8 0 0 x = M4 8 0 0 x) (hf' : f' = -9) : RJ T L m P M1 (n + 1) f' (nk T L (ordQ T L s)) (L - nk T L (ordQ T L s) + 1) (fu - 1) (ordR T L s S3).2 M5 := by
  obtain ⟨j0, j1, j2, j3, j4⟩ := j
  obtain ⟨⟨js, jn, jf, jd⟩, ⟨k8, k9, k10⟩, jR, jI, jS, jP⟩ := j1 hf
  obtain ⟨x1, x2, x3, x4, x5, x6, x7⟩ := hq
  have o := ordQ_r (T := T) js
  have k := nk_r (T := T) o.1
  have o3 := o.2.2 hs
  rw [x7 ho] at q1 q2 q3
  have e17 : M5 17 = M4 17 := q4 17 (by decide)
  refine ⟨by omega, fun _ => ⟨⟨k.1, by omega, by omega, rfl⟩, ⟨q1, q2, q3⟩, by rw [e17]; exact x2, ?_, by rw [e17]; exact sh_ord jI jS x3, jP.trans (prgN_s hs jf ho)⟩, fun z => absurd hf' z, fun x a b c => (q5 x a b c).trans ((x4 x a b c).trans (j3 x a b c)), fun K a b c => (q4 K a).trans ((x5 K a b c).trans (j4 K a b c))⟩
  have z := io_ord (T := T) (L := L) (s := s) jI (by omega)
  rwa [Int.add_assoc] at z
theorem RJ_bad {T : Int → Int} {L m : Int} {P : Int × Sl} {M1 M3 M4 : NM} {n f f' s d : Int} {fu : Nat} {S3 : Sl} {rr : Option U} (j : RJ T L m P M1 n f s d fu S3 M3) (hf : f = -9) (hs : s < L) (ho : ¬ (ordR T L s S3).1 = -1) (hq : RQ T L M3 S3 s rr M4) (hf' : f' = (ordR T L s S3).1) : RJ T L m P M1 (n + 1) f' s 0 fu S3 M4 := by
  obtain ⟨j0, j1, j2, j3, j4⟩ := j
  obtain ⟨⟨js, jn, jf, jd⟩, ⟨k8, k9, k10⟩, jR, jI, jS, jP⟩ := j1 hf
  obtain ⟨x1, x2, x3, x4, x5, x6, x7⟩ := hq
  have r := ordR_r (T := T) (S := S3) js
  refine ⟨by omega, fun z => by omega, fun _ => ⟨by omega, ?_, rfl⟩, fun x a b c => (x4 x a b c).trans (j3 x a b c), fun K a b c => (x5 K a b c).trans (j4 K a b c)⟩
  rw [jP.trans (prgN_f hs jf ho), hf']
def KPR (v : Int) (M MM : NM) : Prop := (0 ≤ v → HK (M 17 0 0) M MM ∧ MM 8 0 0 6 = 0) ∧ (v < 0 → MM 8 0 0 4 = M 8 0 0 4 ∧ MM 19 = M 19 ∧ MM 8 0 0 6 = M 8 0 0 6) ∧ Fo (fun K => K = 8 ∨ K = 17 ∨ K = 18 ∨ K = 19 ∨ K = 21) M MM
def CRP (S : Sl) (P : Int × Sl) (M : NM) (rr : Option U) (MM : NM) : Prop := rr = some (.inl P.1) ∧ (P.1 < 0 → RR (MM 17 0 0) S ∧ SHo (MM 17 0 0) S) ∧ (0 ≤ P.1 → RR (MM 17 0 0) P.2 ∧ SHo (MM 17 0 0) P.2) ∧ KPR P.1 M MM
section
variable {T : Int → Int} {L m : Int} {P : Int × Sl} {M M1 M3 : NM} {S : Sl} {n f s d : Int} {fu : Nat} {S3 : Sl}
theorem CR_ok {M6 : NM} (a1 : ∀ k, 0 ≤ k → k < 589 → M1 18 0 0 k = M 17 0 0 k) (b1 : Fo (fun K => K = 8 ∨ K = 18) M M1) (d1 : F8s 0 M M1) (j : RJ T L m P M1 n f s d fu S3 M3) (hf : f = -9) (hz : ¬ 0 < M3 8 0 0 10) (k : HK (M3 18 0 0) M3 M6) (b6 : Fo (fun K => K = 8 ∨ K = 19) M3 M6) (d6 : F8s 4 M3 M6) : CRP S P M (some (.inl n)) (wri M6 8 0 0 6 0) := by
  obtain ⟨j0, j1, j2, j3, j4⟩ := j
  obtain ⟨⟨js, jn, jf, jd⟩, ⟨k8, k9, k10⟩, jR, jI, jS, jP⟩ := j1 hf
  have hs : s = L := (srt_0 (T := T) js.2).mp (by omega)
  have eP : P = (n, S3) := jP.trans (prgN_e (by omega))
  have e17 : wri M6 8 0 0 6 0 17 = M3 17 := (wri_K (by decide)).trans (b6 17 (by decide))
  have hk : HK (M 17 0 0) M (wri M6 8 0 0 6 0) := by
    refine HK_mm (MM := M6) (HK_cg k (fun x x0 x1 => ?_) ?_ (fun x => ?_)) ?_ ?_
    · rw [j4 18 (by decide) (by decide) (by decide)]; exact a1 x x0 x1
    · exact ((j3 4 (by decide) (by decide) (by decide)).trans (d1 0 0 4 (by decide))).symm
    · rw [j4 19 (by decide) (by decide) (by decide), b1 19 (by decide)]
    · exact wri_nes (by decide)
    · exact wri_K (by decide)
  rw [eP]
  refine ⟨rfl, fun z => absurd (show n < 0 from z) (by omega), fun _ => ⟨by rw [e17]; exact jR, by rw [e17]; exact jS⟩, fun _ => ⟨hk, wri_eq⟩, fun z => absurd (show n < 0 from z) (by omega), fun K h => ?_⟩
  have h8 : K ≠ 8 := fun z => h (Or.inl z)
  have h17 : K ≠ 17 := fun z => h (Or.inr (Or.inl z))
  have h18 : K ≠ 18 := fun z => h (Or.inr (Or.inr (Or.inl z)))
  have h19 : K ≠ 19 := fun z => h (Or.inr (Or.inr (Or.inr (Or.inl z))))
  have h21 : K ≠ 21 := fun z => h (Or.inr (Or.inr (Or.inr (Or.inr z))))
  exact (wri_K h8).trans ((b6 K (fun z => z.elim h8 h19)).trans ((j4 K h8 h17 h21).trans (b1 K (fun z => z.elim h8 h18))))
theorem CR_bad {MM : NM} (b1 : Fo (fun K => K = 8 ∨ K = 18) M M1) (d1 : F8s 0 M M1) (j : RJ T L m P M1 n f s d fu S3 M3) (hR : RR (M 17 0 0) S) (hS : SHo (M 17 0 0) S) (hf : f ≠ -9) (q : ∀ k, 0 ≤ k → k < 589 → MM 17 0 0 k = M 17 0 0 k) (hK : ∀ K, K ≠ 17 → MM K = M3 K) : CRP S P M (some (.inl (-1000 - f))) MM := by
  obtain ⟨j0, j1, j2, j3, j4⟩ := j
  obtain ⟨y1, y2, y3⟩ := j2 hf
  have e8 : MM 8 = M3 8 := hK 8 (by decide)
  refine ⟨rint y2.symm, fun _ => ⟨RR_cg hR q, ?_⟩, fun z => by omega, fun z => by omega, fun _ => ⟨?_, ?_, ?_⟩, fun K h => ?_⟩
  · unfold SHo at *; rw [q 4 (by decide) (by decide), hS]
  · rw [e8]; exact (j3 4 (by decide) (by decide) (by decide)).trans (d1 0 0 4 (by decide))
  · exact (hK 19 (by decide)).trans ((j4 19 (by decide) (by decide) (by decide)).trans (b1 19 (by decide)))
  · rw [e8]; exact (j3 6 (by decide) (by decide) (by decide)).trans (d1 0 0 6 (by decide))
  · have h8 : K ≠ 8 := fun z => h (Or.inl z)
    have h17 : K ≠ 17 := fun z => h (Or.inr (Or.inl z))
    have h18 : K ≠ 18 := fun z => h (Or.inr (Or.inr (Or.inl z)))
    have h21 : K ≠ 21 := fun z => h (Or.inr (Or.inr (Or.inr (Or.inr z))))
    exact (hK K h17).trans ((j4 K h8 h17 h21).trans (b1 K (fun z => z.elim h8 h18)))
end
section
variable {X : XI}
set_option maxRecDepth 2280 in
theorem c_run {m : Int} {M : NM} {S : Sl} (hW : RW m M S) (hS : SHo (M 17 0 0) S) (hA : 0 ≤ M 8 0 0 4 ∧ M 8 0 0 4 ≤ 5) {T : Int → Int} {L : Int} (hL : M 8 0 0 6 = L) (hL2 : 0 ≤ L ∧ L ≤ 120) (hT : ∀ k, 0 ≤ k → k < L → M 20 0 0 k = T k) (hm : m + 120 ≤ 62000) : HT X z_X8_run [.inr (.inr (some (8, 0, 0)))] M (CRP S (prgN T L 120 (sk T L 0) S 0) M) := by
  refine ht_of (e := E_X8_run) rfl (?_ : EvI X E_X8_run (0, [some (.inr (.inr (some (8, 0, 0)))), none, none, none], [], M) _)
  refine seg_ok 1 (?_ : EvI X E_X8_run (1, [some (.inr (.inr (some (8, 0, 0)))), none, none, none], [.inr (.inr (some (8, 0, 0)))], M) _)
  refine ev_cl (z := z_X8_aside) (as := [.inr (.inr (some (8, 0, 0)))]) (rest := []) rfl c_aside ?_
  intro rr M1 hqM1
  obtain ⟨rfl, aM1, bM1, dM1⟩ := hqM1
  show EvI X E_X8_run (4, [some (.inr (.inr (some (8, 0, 0)))), none, none, none], [], M1) _
  refine seg_ok 8 (?_ : EvI X E_X8_run (15, [some (.inr (.inr (some (8, 0, 0)))), some (.inl 0), some (.inl (-9)), none], [.inr (.inr (some (8, 0, 0)))], (wri M1 8 0 0 9 0)) _)
  refine ev_cl (z := z_X8_next) (as := [.inr (.inr (some (8, 0, 0)))]) (rest := []) rfl (c_next (T := T) (L := L) ((wri_nes (by decide)).trans ((dM1 0 0 6 (by decide)).trans hL)) hL2 (fun k a b => (congrFun (congrFun (congrFun (wri_K (by decide)) 0) 0) k).trans (by rw [bM1 20 (by decide)]; exact hT k a b)) ⟨by rw [wri_eq]; exact Int.le_refl 0, by rw [wri_eq]; exact hL2.1⟩) ?_
  intro rr M2 hq
  obtain ⟨rfl, q1, q2, q3, q4, q5⟩ := hq
  rw [wri_eq] at q1 q2 q3
  have hs0 := sk_r (T := T) (L := L) _ 0 rfl hL2.1
  have e17 : M2 17 = M 17 := (q4 17 (by decide)).trans ((wri_K (by decide)).trans (bM1 17 (by decide)))
  show EvI X E_X8_run (18, [some (.inr (.inr (some (8, 0, 0)))), some (.inl 0), some (.inl (-9)), none], [], M2) _
  have L18 : ∀ (m18 : Nat) (n f : Int) (M3 : NM) (s : Int) (d : Int) (fu : Nat) (S3 : Sl), d < (m18 : Int) → (0 ≤ d) → (RJ T L m (prgN T L 120 (sk T L 0) S 0) M1 n f s d fu S3 M3) → EvI X E_X8_run (18, [some (.inr (.inr (some (8, 0, 0)))), some (.inl n), some (.inl f), none], [], M3) (CRP S (prgN T L 120 (sk T L 0) S 0) M) := by
    intro m18
    induction m18 with
    | zero => intro n f M3 s d fu S3 hm18 jd0 j; exact absurd hm18 (by omega)
    | succ m18 ih18 =>
      intro n f M3 s d fu S3 hm18 jd0 j
      refine seg_ok 3 (?_ : EvI X E_X8_run (if 0 < (M3 8 0 0 10) then 25 else 52, [some (.inr (.inr (some (8, 0, 0)))), some (.inl n), some (.inl f), none], [], M3) _)
      refine ev_if (fun h22 => ?_) (fun h22 => ?_)
      · refine seg_ok 3 (?_ : EvI X E_X8_run (if f = (-9) then 31 else 52, [some (.inr (.inr (some (8, 0, 0)))), some (.inl n), some (.inl f), none], [], M3) _)
        refine ev_if (fun h28 => ?_) (fun h28 => ?_)
        · have j0 := j.1
          obtain ⟨⟨js, jn, jf, jd⟩, ⟨k8, k9, k10⟩, jR, jI, jS, jP⟩ := j.2.1 h28
          have hsL : s < L := Classical.byContradiction fun z => by
            have := (srt_0 (T := T) js.2).mpr (by omega)
            omega
          refine seg_ok 1 (?_ : EvI X E_X8_run (32, [some (.inr (.inr (some (8, 0, 0)))), some (.inl n), some (.inl f), none], [.inr (.inr (some (8, 0, 0)))], M3) _)
          refine ev_cl (z := z_X8_fails) (as := [.inr (.inr (some (8, 0, 0)))]) (rest := []) rfl (c_fails ⟨jR, jI⟩ ((j.2.2.2.1 6 (by decide) (by decide) (by decide)).trans ((dM1 0 0 6 (by decide)).trans hL)) hL2 (fun k a b => by rw [j.2.2.2.2 20 (by decide) (by decide) (by decide), bM1 20 (by decide)]; exact hT k a b) (s := s) ⟨js.1, hsL⟩ k8 k9 k10 (by omega)) ?_
          intro rr M4 hq
          obtain rfl := hq.1
          have hro := ordR_r (T := T) (S := S3) js
          show EvI X E_X8_run (35, [some (.inr (.inr (some (8, 0, 0)))), some (.inl n), some (.inl f), none], [.inl (cif ((ordR T L s S3).1 = -1) (-9) (ordR T L s S3).1)], M4) _
          refine seg_ok 5 (⟨by omega, ?_⟩ : ((-2147483648 : Int) ≤ (n + 1) ∧ (n + 1) < 2147483648) ∧ EvI X E_X8_run (if (cif ((ordR T L s S3).1 = -1) (-9) (ordR T L s S3).1) = (-9) then 45 else 18, [some (.inr (.inr (some (8, 0, 0)))), some (.inl (n + 1)), some (.inl (cif ((ordR T L s S3).1 = -1) (-9) (ordR T L s S3).1)), none], [], M4) _)
          refine ev_if (fun h42 => ?_) (fun h42 => ?_)
          · have ho : (ordR T L s S3).1 = -1 := by
              rcases hro with z | z
              · exact z
              · rw [cif_f (show ¬ (ordR T L s S3).1 = -1 by omega)] at h42; omega
            have o_ := ordQ_r (T := T) js
            have k_ := nk_r (T := T) o_.1
            have o3 := o_.2.2 hsL
            refine seg_ok 1 (?_ : EvI X E_X8_run (46, [some (.inr (.inr (some (8, 0, 0)))), some (.inl (n + 1)), some (.inl (cif ((ordR T L s S3).1 = -1) (-9) (ordR T L s S3).1)), none], [.inr (.inr (some (8, 0, 0)))], M4) _)
            refine ev_cl (z := z_X8_next) (as := [.inr (.inr (some (8, 0, 0)))]) (rest := []) rfl (c_next (T := T) (L := L) ((hq.2.2.2.1 6 (by decide) (by decide) (by decide)).trans ((j.2.2.2.1 6 (by decide) (by decide) (by decide)).trans ((dM1 0 0 6 (by decide)).trans hL))) hL2 (fun k a b => by rw [hq.2.2.2.2.1 20 (by decide) (by decide) (by decide), j.2.2.2.2 20 (by decide) (by decide) (by decide), bM1 20 (by decide)]; exact hT k a b) hq.2.2.2.2.2.1) ?_
            intro rr M5 hq5
            obtain ⟨rfl, q1, q2, q3, q4, q5⟩ := hq5
            show EvI X E_X8_run (49, [some (.inr (.inr (some (8, 0, 0)))), some (.inl (n + 1)), some (.inl (cif ((ordR T L s S3).1 = -1) (-9) (ordR T L s S3).1)), none], [], M5) _
            refine seg_ok 1 (?_ : EvI X E_X8_run (18, [some (.inr (.inr (some (8, 0, 0)))), some (.inl (n + 1)), some (.inl (cif ((ordR T L s S3).1 = -1) (-9) (ordR T L s S3).1)), none], [], M5) _)
            refine ih18 (n + 1) (cif ((ordR T L s S3).1 = -1) (-9) (ordR T L s S3).1) M5 (nk T L (ordQ T L s)) (L - nk T L (ordQ T L s) + 1) (fu - 1) ((ordR T L s S3).2) (by omega) (by omega) (RJ_ok hm hL2 j h28 hsL ho hq q1 q2 q3 q4 q5 h42)
          · have ho : ¬ (ordR T L s S3).1 = -1 := fun z => h42 (cif_t z)
            refine ih18 (n + 1) (cif ((ordR T L s S3).1 = -1) (-9) (ordR T L s S3).1) M4 s 0 fu S3 (by omega) (by omega) (RJ_bad j h28 hsL ho hq (cif_f ho))
        · refine seg_ok 3 (?_ : EvI X E_X8_run (if f = (-9) then 91 else 58, [some (.inr (.inr (some (8, 0, 0)))), some (.inl n), some (.inl f), none], [], M3) _)
          refine ev_if (fun h55 => ?_) (fun h55 => ?_)
          · exact absurd h55 h28
          · have j2 := j.2.2.1 h55
            refine seg_ok 2 (?_ : EvI X E_X8_run (60, [some (.inr (.inr (some (8, 0, 0)))), some (.inl n), some (.inl f), some (.inl 0)], [], M3) _)
            have L60 : ∀ (m60 : Nat) (k : Int) (Mk : NM), 589 - k < (m60 : Int) → (0 ≤ k) → (k ≤ 589) → (∀ k2, 0 ≤ k2 → k2 < k → Mk 17 0 0 k2 = M 17 0 0 k2) → (∀ K, K ≠ 17 → Mk K = M3 K) → EvI X E_X8_run (60, [some (.inr (.inr (some (8, 0, 0)))), some (.inl n), some (.inl f), some (.inl k)], [], Mk) (CRP S (prgN T L 120 (sk T L 0) S 0) M) := by
              intro m60
              induction m60 with
              | zero => intro k Mk hm60 p1 p2 p3 p4; exact absurd hm60 (by omega)
              | succ m60 ih60 =>
                intro k Mk hm60 p1 p2 p3 p4
                refine seg_ok 3 (?_ : EvI X E_X8_run (if k < 589 then 67 else 85, [some (.inr (.inr (some (8, 0, 0)))), some (.inl n), some (.inl f), some (.inl k)], [], Mk) _)
                refine ev_if (fun h64 => ?_) (fun h64 => ?_)
                · refine seg_ok 10 (⟨by omega, by omega, by omega, ?_⟩ : ((0 : Int) ≤ k ∧ k < 589) ∧ ((0 : Int) ≤ k ∧ k < 589) ∧ ((-2147483648 : Int) ≤ (k + 1) ∧ (k + 1) < 2147483648) ∧ EvI X E_X8_run (60, [some (.inr (.inr (some (8, 0, 0)))), some (.inl n), some (.inl f), some (.inl (k + 1))], [], (wri Mk 17 0 0 k (Mk 18 0 0 k))) _)
                  refine ih60 (k + 1) (wri Mk 17 0 0 k (Mk 18 0 0 k)) (by omega) (by omega) (by omega) (fun k2 a b => by
      by_cases z : k2 = k
      · rw [z]; exact wri_eq.trans (by rw [p4 18 (by decide), j.2.2.2.2 18 (by decide) (by decide) (by decide)]; exact aM1 k p1 (by omega))
      · exact (wri_nes z).trans (p3 k2 a (by omega))) (fun K h => (wri_K h).trans (p4 K h))
                · refine seg_ok 3 (⟨by omega, ?_⟩ : ((-2147483648 : Int) ≤ ((-1000) - f) ∧ ((-1000) - f) < 2147483648) ∧ EvI X E_X8_run (90, [some (.inr (.inr (some (8, 0, 0)))), some (.inl n), some (.inl f), some (.inl k)], [.inl ((-1000) - f)], Mk) _)
                  refine ev_rt (r := some (.inl ((-1000) - f))) rfl (?_)
                  exact CR_bad bM1 dM1 j hW.1 hS h55 (fun k2 a b => p3 k2 a (by omega)) p4
            refine L60 ((589 - 0) + 1 : Int).toNat 0 M3 (by omega) (by omega) (by omega) (fun k2 a b => by omega) (fun _ _ => rfl)
      · refine seg_ok 3 (?_ : EvI X E_X8_run (if f = (-9) then 91 else 58, [some (.inr (.inr (some (8, 0, 0)))), some (.inl n), some (.inl f), none], [], M3) _)
        refine ev_if (fun h55 => ?_) (fun h55 => ?_)
        · refine seg_ok 1 (?_ : EvI X E_X8_run (92, [some (.inr (.inr (some (8, 0, 0)))), some (.inl n), some (.inl f), none], [.inr (.inr (some (8, 0, 0)))], M3) _)
          refine ev_cl (z := z_X8_keep) (as := [.inr (.inr (some (8, 0, 0)))]) (rest := []) rfl (c_keep (by rw [j.2.2.2.1 4 (by decide) (by decide) (by decide), dM1 0 0 4 (by decide)]; exact hA)) ?_
          intro rr M6 hq6
          obtain ⟨rfl, kM6, bM6, dM6⟩ := hq6
          show EvI X E_X8_run (95, [some (.inr (.inr (some (8, 0, 0)))), some (.inl n), some (.inl f), none], [], M6) _
          refine seg_ok 4 (?_ : EvI X E_X8_run (101, [some (.inr (.inr (some (8, 0, 0)))), some (.inl n), some (.inl f), none], [.inl n], (wri M6 8 0 0 6 0)) _)
          refine ev_rt (r := some (.inl n)) rfl (?_)
          exact CR_ok aM1 bM1 dM1 j h55 h22 kM6 bM6 dM6
        · have j2 := j.2.2.1 h55
          refine seg_ok 2 (?_ : EvI X E_X8_run (60, [some (.inr (.inr (some (8, 0, 0)))), some (.inl n), some (.inl f), some (.inl 0)], [], M3) _)
          have L60 : ∀ (m60 : Nat) (k : Int) (Mk : NM), 589 - k < (m60 : Int) → (0 ≤ k) → (k ≤ 589) → (∀ k2, 0 ≤ k2 → k2 < k → Mk 17 0 0 k2 = M 17 0 0 k2) → (∀ K, K ≠ 17 → Mk K = M3 K) → EvI X E_X8_run (60, [some (.inr (.inr (some (8, 0, 0)))), some (.inl n), some (.inl f), some (.inl k)], [], Mk) (CRP S (prgN T L 120 (sk T L 0) S 0) M) := by
            intro m60
            induction m60 with
            | zero => intro k Mk hm60 p1 p2 p3 p4; exact absurd hm60 (by omega)
            | succ m60 ih60 =>
              intro k Mk hm60 p1 p2 p3 p4
              refine seg_ok 3 (?_ : EvI X E_X8_run (if k < 589 then 67 else 85, [some (.inr (.inr (some (8, 0, 0)))), some (.inl n), some (.inl f), some (.inl k)], [], Mk) _)
              refine ev_if (fun h64 => ?_) (fun h64 => ?_)
              · refine seg_ok 10 (⟨by omega, by omega, by omega, ?_⟩ : ((0 : Int) ≤ k ∧ k < 589) ∧ ((0 : Int) ≤ k ∧ k < 589) ∧ ((-2147483648 : Int) ≤ (k + 1) ∧ (k + 1) < 2147483648) ∧ EvI X E_X8_run (60, [some (.inr (.inr (some (8, 0, 0)))), some (.inl n), some (.inl f), some (.inl (k + 1))], [], (wri Mk 17 0 0 k (Mk 18 0 0 k))) _)
                refine ih60 (k + 1) (wri Mk 17 0 0 k (Mk 18 0 0 k)) (by omega) (by omega) (by omega) (fun k2 a b => by
      by_cases z : k2 = k
      · rw [z]; exact wri_eq.trans (by rw [p4 18 (by decide), j.2.2.2.2 18 (by decide) (by decide) (by decide)]; exact aM1 k p1 (by omega))
      · exact (wri_nes z).trans (p3 k2 a (by omega))) (fun K h => (wri_K h).trans (p4 K h))
              · refine seg_ok 3 (⟨by omega, ?_⟩ : ((-2147483648 : Int) ≤ ((-1000) - f) ∧ ((-1000) - f) < 2147483648) ∧ EvI X E_X8_run (90, [some (.inr (.inr (some (8, 0, 0)))), some (.inl n), some (.inl f), some (.inl k)], [.inl ((-1000) - f)], Mk) _)
                refine ev_rt (r := some (.inl ((-1000) - f))) rfl (?_)
                exact CR_bad bM1 dM1 j hW.1 hS h55 (fun k2 a b => p3 k2 a (by omega)) p4
          refine L60 ((589 - 0) + 1 : Int).toNat 0 M3 (by omega) (by omega) (by omega) (fun k2 a b => by omega) (fun _ _ => rfl)
  refine L18 ((L - sk T L 0 + 1) + 1 : Int).toNat 0 (-9) M2 (sk T L 0) (L - sk T L 0 + 1) 120 S (by omega) (by omega) ⟨Int.le_refl 0, fun _ => ⟨⟨⟨hs0.1, hs0.2.1⟩, hs0.1, by omega, rfl⟩, ⟨q1, q2, q3⟩, by rw [e17]; exact hW.1, by rw [Int.add_zero]; exact hW.2, by rw [e17]; exact hS, rfl⟩, fun z => absurd rfl z, fun x a b c => (q5 x a b c).trans (wri_nes b), fun K a b c => (q4 K a).trans (wri_K a)⟩
end
