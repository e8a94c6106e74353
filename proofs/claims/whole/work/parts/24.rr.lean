/-! 24: the reference's row of numbers: what a write does to the stadium that it tells of -/
def F17 (M MM : NM) : Prop := ∀ K, K ≠ 17 → MM K = M K
theorem F17_rf {M : NM} : F17 M M := fun _ _ => rfl
theorem F17_tr {M M1 M2 : NM} (h : F17 M M1) (k : F17 M1 M2) : F17 M M2 := fun K q => (k K q).trans (h K q)
theorem F17_wri {M M1 : NM} {p v : Int} (h : F17 M M1) : F17 M (wri M1 17 0 0 p v) := fun K q => (wri_K q).trans (h K q)
theorem u4_wri {M M0 : NM} {p v : Int} (h : M 17 0 0 4 = M0 17 0 0 4) (hp : 4 ≠ p) : wri M 17 0 0 p v 17 0 0 4 = M0 17 0 0 4 := (wri_nes hp).trans h
theorem u4_tr {x y z : Int} (h : x = y) (k : y = z) : x = z := h.trans k
theorem ua_eq {a : Int → Int} {p v : Int} : ua a p v p = v := if_pos rfl
theorem ua_ne {a : Int → Int} {p v k : Int} (h : k ≠ p) : ua a p v k = a k := if_neg h
theorem RR_s0 {M : NM} {S : Sl} {v : Int} (h : RR (M 17 0 0) S) : RR (wri M 17 0 0 0 v 17 0 0) (st S 5 0 5 v) := by
  rw [wri_17]
  obtain ⟨⟨h0, h1, h2, h3, h4, h5, h6, h7, h8, h9, h10⟩, hb, hc, hh, ht⟩ := h
  exact ⟨⟨ua_eq.trans st_eq.symm, (ua_ne (by decide)).trans (h1.trans ((st_nes (by decide)).symm)), (ua_ne (by decide)).trans (h2.trans ((st_nes (by decide)).symm)), (ua_ne (by decide)).trans (h3.trans ((st_nes (by decide)).symm)), h4, (ua_ne (by decide)).trans (h5.trans ((st_nes (by decide)).symm)), (ua_ne (by decide)).trans (h6.trans (rfl)), (ua_ne (by decide)).trans (h7.trans (rfl)), (ua_ne (by decide)).trans (h8.trans ((st_nes (by decide)).symm)), (ua_ne (by decide)).trans (h9.trans ((st_nes (by decide)).symm)), (ua_ne (by decide)).trans (h10.trans (rfl))⟩, fun b w b0 b1 w0 w1 => (ua_ne (by omega)).trans (hb b w b0 b1 w0 w1), fun c c0 c1 c2 => (ua_ne (by omega)).trans (hc c c0 c1 c2), fun b w b0 b1 w0 w1 => (ua_ne (by omega)).trans (hh b w b0 b1 w0 w1), fun b w b0 b1 w0 w1 => (ua_ne (by omega)).trans (ht b w b0 b1 w0 w1)⟩
theorem RR_s1 {M : NM} {S : Sl} {v : Int} (h : RR (M 17 0 0) S) : RR (wri M 17 0 0 1 v 17 0 0) (st S 5 0 6 v) := by
  rw [wri_17]
  obtain ⟨⟨h0, h1, h2, h3, h4, h5, h6, h7, h8, h9, h10⟩, hb, hc, hh, ht⟩ := h
  exact ⟨⟨(ua_ne (by decide)).trans (h0.trans ((st_nes (by decide)).symm)), ua_eq.trans st_eq.symm, (ua_ne (by decide)).trans (h2.trans ((st_nes (by decide)).symm)), (ua_ne (by decide)).trans (h3.trans ((st_nes (by decide)).symm)), h4, (ua_ne (by decide)).trans (h5.trans ((st_nes (by decide)).symm)), (ua_ne (by decide)).trans (h6.trans (rfl)), (ua_ne (by decide)).trans (h7.trans (rfl)), (ua_ne (by decide)).trans (h8.trans ((st_nes (by decide)).symm)), (ua_ne (by decide)).trans (h9.trans ((st_nes (by decide)).symm)), (ua_ne (by decide)).trans (h10.trans (rfl))⟩, fun b w b0 b1 w0 w1 => (ua_ne (by omega)).trans (hb b w b0 b1 w0 w1), fun c c0 c1 c2 => (ua_ne (by omega)).trans (hc c c0 c1 c2), fun b w b0 b1 w0 w1 => (ua_ne (by omega)).trans (hh b w b0 b1 w0 w1), fun b w b0 b1 w0 w1 => (ua_ne (by omega)).trans (ht b w b0 b1 w0 w1)⟩
theorem RR_s2 {M : NM} {S : Sl} {v : Int} (h : RR (M 17 0 0) S) : RR (wri M 17 0 0 2 v 17 0 0) (st S 5 0 7 v) := by
  rw [wri_17]
  obtain ⟨⟨h0, h1, h2, h3, h4, h5, h6, h7, h8, h9, h10⟩, hb, hc, hh, ht⟩ := h
  exact ⟨⟨(ua_ne (by decide)).trans (h0.trans ((st_nes (by decide)).symm)), (ua_ne (by decide)).trans (h1.trans ((st_nes (by decide)).symm)), ua_eq.trans st_eq.symm, (ua_ne (by decide)).trans (h3.trans ((st_nes (by decide)).symm)), h4, (ua_ne (by decide)).trans (h5.trans ((st_nes (by decide)).symm)), (ua_ne (by decide)).trans (h6.trans (rfl)), (ua_ne (by decide)).trans (h7.trans (rfl)), (ua_ne (by decide)).trans (h8.trans ((st_nes (by decide)).symm)), (ua_ne (by decide)).trans (h9.trans ((st_nes (by decide)).symm)), (ua_ne (by decide)).trans (h10.trans (rfl))⟩, fun b w b0 b1 w0 w1 => (ua_ne (by omega)).trans (hb b w b0 b1 w0 w1), fun c c0 c1 c2 => (ua_ne (by omega)).trans (hc c c0 c1 c2), fun b w b0 b1 w0 w1 => (ua_ne (by omega)).trans (hh b w b0 b1 w0 w1), fun b w b0 b1 w0 w1 => (ua_ne (by omega)).trans (ht b w b0 b1 w0 w1)⟩
theorem RR_s3 {M : NM} {S : Sl} {v : Int} (h : RR (M 17 0 0) S) : RR (wri M 17 0 0 3 v 17 0 0) (st S 5 0 8 v) := by
  rw [wri_17]
  obtain ⟨⟨h0, h1, h2, h3, h4, h5, h6, h7, h8, h9, h10⟩, hb, hc, hh, ht⟩ := h
  exact ⟨⟨(ua_ne (by decide)).trans (h0.trans ((st_nes (by decide)).symm)), (ua_ne (by decide)).trans (h1.trans ((st_nes (by decide)).symm)), (ua_ne (by decide)).trans (h2.trans ((st_nes (by decide)).symm)), ua_eq.trans st_eq.symm, h4, (ua_ne (by decide)).trans (h5.trans ((st_nes (by decide)).symm)), (ua_ne (by decide)).trans (h6.trans (rfl)), (ua_ne (by decide)).trans (h7.trans (rfl)), (ua_ne (by decide)).trans (h8.trans ((st_nes (by decide)).symm)), (ua_ne (by decide)).trans (h9.trans ((st_nes (by decide)).symm)), (ua_ne (by decide)).trans (h10.trans (rfl))⟩, fun b w b0 b1 w0 w1 => (ua_ne (by omega)).trans (hb b w b0 b1 w0 w1), fun c c0 c1 c2 => (ua_ne (by omega)).trans (hc c c0 c1 c2), fun b w b0 b1 w0 w1 => (ua_ne (by omega)).trans (hh b w b0 b1 w0 w1), fun b w b0 b1 w0 w1 => (ua_ne (by omega)).trans (ht b w b0 b1 w0 w1)⟩
theorem RR_s5 {M : NM} {S : Sl} {v : Int} (h : RR (M 17 0 0) S) : RR (wri M 17 0 0 5 v 17 0 0) (st S 5 0 9 v) := by
  rw [wri_17]
  obtain ⟨⟨h0, h1, h2, h3, h4, h5, h6, h7, h8, h9, h10⟩, hb, hc, hh, ht⟩ := h
  exact ⟨⟨(ua_ne (by decide)).trans (h0.trans ((st_nes (by decide)).symm)), (ua_ne (by decide)).trans (h1.trans ((st_nes (by decide)).symm)), (ua_ne (by decide)).trans (h2.trans ((st_nes (by decide)).symm)), (ua_ne (by decide)).trans (h3.trans ((st_nes (by decide)).symm)), h4, ua_eq.trans st_eq.symm, (ua_ne (by decide)).trans (h6.trans (rfl)), (ua_ne (by decide)).trans (h7.trans (rfl)), (ua_ne (by decide)).trans (h8.trans ((st_nes (by decide)).symm)), (ua_ne (by decide)).trans (h9.trans ((st_nes (by decide)).symm)), (ua_ne (by decide)).trans (h10.trans (rfl))⟩, fun b w b0 b1 w0 w1 => (ua_ne (by omega)).trans (hb b w b0 b1 w0 w1), fun c c0 c1 c2 => (ua_ne (by omega)).trans (hc c c0 c1 c2), fun b w b0 b1 w0 w1 => (ua_ne (by omega)).trans (hh b w b0 b1 w0 w1), fun b w b0 b1 w0 w1 => (ua_ne (by omega)).trans (ht b w b0 b1 w0 w1)⟩
theorem RR_s6 {M : NM} {S : Sl} {v : Int} (h : RR (M 17 0 0) S) : RR (wri M 17 0 0 6 v 17 0 0) (st S 1 0 3 v) := by
  rw [wri_17]
  obtain ⟨⟨h0, h1, h2, h3, h4, h5, h6, h7, h8, h9, h10⟩, hb, hc, hh, ht⟩ := h
  exact ⟨⟨(ua_ne (by decide)).trans (h0.trans (rfl)), (ua_ne (by decide)).trans (h1.trans (rfl)), (ua_ne (by decide)).trans (h2.trans (rfl)), (ua_ne (by decide)).trans (h3.trans (rfl)), h4, (ua_ne (by decide)).trans (h5.trans (rfl)), ua_eq.trans st_eq.symm, (ua_ne (by decide)).trans (h7.trans ((st_nes (by decide)).symm)), (ua_ne (by decide)).trans (h8.trans (rfl)), (ua_ne (by decide)).trans (h9.trans (rfl)), (ua_ne (by decide)).trans (h10.trans ((st_nes (by decide)).symm))⟩, fun b w b0 b1 w0 w1 => (ua_ne (by omega)).trans (hb b w b0 b1 w0 w1), fun c c0 c1 c2 => (ua_ne (by omega)).trans (hc c c0 c1 c2), fun b w b0 b1 w0 w1 => (ua_ne (by omega)).trans (hh b w b0 b1 w0 w1), fun b w b0 b1 w0 w1 => (ua_ne (by omega)).trans (ht b w b0 b1 w0 w1)⟩
theorem RR_s7 {M : NM} {S : Sl} {v : Int} (h : RR (M 17 0 0) S) : RR (wri M 17 0 0 7 v 17 0 0) (st S 1 0 4 v) := by
  rw [wri_17]
  obtain ⟨⟨h0, h1, h2, h3, h4, h5, h6, h7, h8, h9, h10⟩, hb, hc, hh, ht⟩ := h
  exact ⟨⟨(ua_ne (by decide)).trans (h0.trans (rfl)), (ua_ne (by decide)).trans (h1.trans (rfl)), (ua_ne (by decide)).trans (h2.trans (rfl)), (ua_ne (by decide)).trans (h3.trans (rfl)), h4, (ua_ne (by decide)).trans (h5.trans (rfl)), (ua_ne (by decide)).trans (h6.trans ((st_nes (by decide)).symm)), ua_eq.trans st_eq.symm, (ua_ne (by decide)).trans (h8.trans (rfl)), (ua_ne (by decide)).trans (h9.trans (rfl)), (ua_ne (by decide)).trans (h10.trans ((st_nes (by decide)).symm))⟩, fun b w b0 b1 w0 w1 => (ua_ne (by omega)).trans (hb b w b0 b1 w0 w1), fun c c0 c1 c2 => (ua_ne (by omega)).trans (hc c c0 c1 c2), fun b w b0 b1 w0 w1 => (ua_ne (by omega)).trans (hh b w b0 b1 w0 w1), fun b w b0 b1 w0 w1 => (ua_ne (by omega)).trans (ht b w b0 b1 w0 w1)⟩
theorem RR_s8 {M : NM} {S : Sl} {v : Int} (h : RR (M 17 0 0) S) : RR (wri M 17 0 0 8 v 17 0 0) (st S 5 0 3 v) := by
  rw [wri_17]
  obtain ⟨⟨h0, h1, h2, h3, h4, h5, h6, h7, h8, h9, h10⟩, hb, hc, hh, ht⟩ := h
  exact ⟨⟨(ua_ne (by decide)).trans (h0.trans ((st_nes (by decide)).symm)), (ua_ne (by decide)).trans (h1.trans ((st_nes (by decide)).symm)), (ua_ne (by decide)).trans (h2.trans ((st_nes (by decide)).symm)), (ua_ne (by decide)).trans (h3.trans ((st_nes (by decide)).symm)), h4, (ua_ne (by decide)).trans (h5.trans ((st_nes (by decide)).symm)), (ua_ne (by decide)).trans (h6.trans (rfl)), (ua_ne (by decide)).trans (h7.trans (rfl)), ua_eq.trans st_eq.symm, (ua_ne (by decide)).trans (h9.trans ((st_nes (by decide)).symm)), (ua_ne (by decide)).trans (h10.trans (rfl))⟩, fun b w b0 b1 w0 w1 => (ua_ne (by omega)).trans (hb b w b0 b1 w0 w1), fun c c0 c1 c2 => (ua_ne (by omega)).trans (hc c c0 c1 c2), fun b w b0 b1 w0 w1 => (ua_ne (by omega)).trans (hh b w b0 b1 w0 w1), fun b w b0 b1 w0 w1 => (ua_ne (by omega)).trans (ht b w b0 b1 w0 w1)⟩
theorem RR_s9 {M : NM} {S : Sl} {v : Int} (h : RR (M 17 0 0) S) : RR (wri M 17 0 0 9 v 17 0 0) (st S 5 0 4 v) := by
  rw [wri_17]
  obtain ⟨⟨h0, h1, h2, h3, h4, h5, h6, h7, h8, h9, h10⟩, hb, hc, hh, ht⟩ := h
  exact ⟨⟨(ua_ne (by decide)).trans (h0.trans ((st_nes (by decide)).symm)), (ua_ne (by decide)).trans (h1.trans ((st_nes (by decide)).symm)), (ua_ne (by decide)).trans (h2.trans ((st_nes (by decide)).symm)), (ua_ne (by decide)).trans (h3.trans ((st_nes (by decide)).symm)), h4, (ua_ne (by decide)).trans (h5.trans ((st_nes (by decide)).symm)), (ua_ne (by decide)).trans (h6.trans (rfl)), (ua_ne (by decide)).trans (h7.trans (rfl)), (ua_ne (by decide)).trans (h8.trans ((st_nes (by decide)).symm)), ua_eq.trans st_eq.symm, (ua_ne (by decide)).trans (h10.trans (rfl))⟩, fun b w b0 b1 w0 w1 => (ua_ne (by omega)).trans (hb b w b0 b1 w0 w1), fun c c0 c1 c2 => (ua_ne (by omega)).trans (hc c c0 c1 c2), fun b w b0 b1 w0 w1 => (ua_ne (by omega)).trans (hh b w b0 b1 w0 w1), fun b w b0 b1 w0 w1 => (ua_ne (by omega)).trans (ht b w b0 b1 w0 w1)⟩
theorem RR_s10 {M : NM} {S : Sl} {v : Int} (h : RR (M 17 0 0) S) : RR (wri M 17 0 0 10 v 17 0 0) (st S 1 0 5 v) := by
  rw [wri_17]
  obtain ⟨⟨h0, h1, h2, h3, h4, h5, h6, h7, h8, h9, h10⟩, hb, hc, hh, ht⟩ := h
  exact ⟨⟨(ua_ne (by decide)).trans (h0.trans (rfl)), (ua_ne (by decide)).trans (h1.trans (rfl)), (ua_ne (by decide)).trans (h2.trans (rfl)), (ua_ne (by decide)).trans (h3.trans (rfl)), h4, (ua_ne (by decide)).trans (h5.trans (rfl)), (ua_ne (by decide)).trans (h6.trans ((st_nes (by decide)).symm)), (ua_ne (by decide)).trans (h7.trans ((st_nes (by decide)).symm)), (ua_ne (by decide)).trans (h8.trans (rfl)), (ua_ne (by decide)).trans (h9.trans (rfl)), ua_eq.trans st_eq.symm⟩, fun b w b0 b1 w0 w1 => (ua_ne (by omega)).trans (hb b w b0 b1 w0 w1), fun c c0 c1 c2 => (ua_ne (by omega)).trans (hc c c0 c1 c2), fun b w b0 b1 w0 w1 => (ua_ne (by omega)).trans (hh b w b0 b1 w0 w1), fun b w b0 b1 w0 w1 => (ua_ne (by omega)).trans (ht b w b0 b1 w0 w1)⟩
theorem sc0 {a : Int → Int} {S : Sl} (h : RR a S) : a 0 = S 5 0 5 := h.1.1
theorem sc1 {a : Int → Int} {S : Sl} (h : RR a S) : a 1 = S 5 0 6 := h.1.2.1
theorem sc2 {a : Int → Int} {S : Sl} (h : RR a S) : a 2 = S 5 0 7 := h.1.2.2.1
theorem sc3 {a : Int → Int} {S : Sl} (h : RR a S) : a 3 = S 5 0 8 := h.1.2.2.2.1
theorem sc5 {a : Int → Int} {S : Sl} (h : RR a S) : a 5 = S 5 0 9 := h.1.2.2.2.2.2.1
theorem sc6 {a : Int → Int} {S : Sl} (h : RR a S) : a 6 = S 1 0 3 := h.1.2.2.2.2.2.2.1
theorem sc7 {a : Int → Int} {S : Sl} (h : RR a S) : a 7 = S 1 0 4 := h.1.2.2.2.2.2.2.2.1
theorem sc8 {a : Int → Int} {S : Sl} (h : RR a S) : a 8 = S 5 0 3 := h.1.2.2.2.2.2.2.2.2.1
theorem sc9 {a : Int → Int} {S : Sl} (h : RR a S) : a 9 = S 5 0 4 := h.1.2.2.2.2.2.2.2.2.2.1
theorem sc10 {a : Int → Int} {S : Sl} (h : RR a S) : a 10 = S 1 0 5 := h.1.2.2.2.2.2.2.2.2.2.2
section
variable {M : NM} {S : Sl}
theorem RR_4 {v : Int} (h : RR (M 17 0 0) S) : RR (wri M 17 0 0 4 v 17 0 0) S := by
  rw [wri_17]
  obtain ⟨⟨h0, h1, h2, h3, h4, h5, h6, h7, h8, h9, h10⟩, hb, hc, hh, ht⟩ := h
  refine ⟨⟨?_, ?_, ?_, ?_, h4, ?_, ?_, ?_, ?_, ?_, ?_⟩, fun b w b0 b1 w0 w1 => ?_, fun c c0 c1 c2 => ?_, fun b w b0 b1 w0 w1 => ?_, fun b w b0 b1 w0 w1 => ?_⟩
  all_goals rw [ua_ne (by omega)]
  all_goals first | assumption | exact hb b w b0 b1 w0 w1 | exact hc c c0 c1 c2 | exact hh b w b0 b1 w0 w1 | exact ht b w b0 b1 w0 w1
theorem RR_blk {b w v : Int} (h : RR (M 17 0 0) S) (hb' : 0 ≤ b ∧ b < 6) (hw' : 0 ≤ w ∧ w < 3) : RR (wri M 17 0 0 (11 + 3 * b + w) v 17 0 0) (st S 0 b w v) := by
  rw [wri_17]
  obtain ⟨⟨h0, h1, h2, h3, h4, h5, h6, h7, h8, h9, h10⟩, hb, hc, hh, ht⟩ := h
  refine ⟨⟨?_, ?_, ?_, ?_, h4, ?_, ?_, ?_, ?_, ?_, ?_⟩, fun x y x0 x1 y0 y1 => ?_, fun c c0 c1 c2 => ?_, fun x y x0 x1 y0 y1 => ?_, fun x y x0 x1 y0 y1 => ?_⟩
  all_goals first | (rw [ua_ne (by omega)]; first | assumption | exact hc c c0 c1 c2 | exact hh x y x0 x1 y0 y1 | exact ht x y x0 x1 y0 y1) | skip
  by_cases q : x = b ∧ y = w
  · rw [q.1, q.2, ua_eq, st_eq]
  · rw [ua_ne (by omega), show st S 0 b w v 0 x y = S 0 x y from if_neg (fun z => q z.2)]; exact hb x y x0 x1 y0 y1
theorem RR_hold {b w v : Int} (h : RR (M 17 0 0) S) (hb' : 0 ≤ b ∧ b < 20) (hw' : 0 ≤ w ∧ w < 5) : RR (wri M 17 0 0 (389 + 5 * b + w) v 17 0 0) (st S 3 b w v) := by
  rw [wri_17]
  obtain ⟨⟨h0, h1, h2, h3, h4, h5, h6, h7, h8, h9, h10⟩, hb, hc, hh, ht⟩ := h
  refine ⟨⟨?_, ?_, ?_, ?_, h4, ?_, ?_, ?_, ?_, ?_, ?_⟩, fun x y x0 x1 y0 y1 => ?_, fun c c0 c1 c2 => ?_, fun x y x0 x1 y0 y1 => ?_, fun x y x0 x1 y0 y1 => ?_⟩
  rotate_right 2
  · by_cases q : x = b ∧ y = w
    · rw [q.1, q.2, ua_eq, st_eq]
    · rw [ua_ne (by omega), show st S 3 b w v 3 x y = S 3 x y from if_neg (fun z => q z.2)]; exact hh x y x0 x1 y0 y1
  all_goals (rw [ua_ne (by omega)]; first | assumption | exact hb x y x0 x1 y0 y1 | exact hc c c0 c1 c2 | exact ht x y x0 x1 y0 y1)
theorem RR_tick {b w v : Int} (h : RR (M 17 0 0) S) (hb' : 0 ≤ b ∧ b < 20) (hw' : 0 ≤ w ∧ w < 5) : RR (wri M 17 0 0 (489 + 5 * b + w) v 17 0 0) (st S 6 b w v) := by
  rw [wri_17]
  obtain ⟨⟨h0, h1, h2, h3, h4, h5, h6, h7, h8, h9, h10⟩, hb, hc, hh, ht⟩ := h
  refine ⟨⟨?_, ?_, ?_, ?_, h4, ?_, ?_, ?_, ?_, ?_, ?_⟩, fun x y x0 x1 y0 y1 => ?_, fun c c0 c1 c2 => ?_, fun x y x0 x1 y0 y1 => ?_, fun x y x0 x1 y0 y1 => ?_⟩
  rotate_right 1
  · by_cases q : x = b ∧ y = w
    · rw [q.1, q.2, ua_eq, st_eq]
    · rw [ua_ne (by omega), show st S 6 b w v 6 x y = S 6 x y from if_neg (fun z => q z.2)]; exact ht x y x0 x1 y0 y1
  all_goals (rw [ua_ne (by omega)]; first | assumption | exact hb x y x0 x1 y0 y1 | exact hc c c0 c1 c2 | exact hh x y x0 x1 y0 y1)
theorem RR_hold0 {b v : Int} (h : RR (M 17 0 0) S) (hb' : 0 ≤ b ∧ b < 20) : RR (wri M 17 0 0 (389 + 5 * b) v 17 0 0) (st S 3 b 0 v) := by
  have := RR_hold (v := v) h hb' (w := 0) (by decide)
  rwa [Int.add_zero] at this
theorem RR_tick0 {b v : Int} (h : RR (M 17 0 0) S) (hb' : 0 ≤ b ∧ b < 20) : RR (wri M 17 0 0 (489 + 5 * b) v 17 0 0) (st S 6 b 0 v) := by
  have := RR_tick (v := v) h hb' (w := 0) (by decide)
  rwa [Int.add_zero] at this
/-- a chair: what it is, the stages over it -/
theorem RR_ch {c x y : Int} (h : RR (M 17 0 0) S) (hc' : 0 ≤ c ∧ c < 600 ∧ c % 100 < 60) : RR (wri M 17 0 0 (29 + 60 * (c / 100) + c % 100) (x + 4 * y) 17 0 0) (st (st S 13 0 c x) 14 0 c y) := by
  rw [wri_17]
  obtain ⟨⟨h0, h1, h2, h3, h4, h5, h6, h7, h8, h9, h10⟩, hb, hc, hh, ht⟩ := h
  refine ⟨⟨?_, ?_, ?_, ?_, h4, ?_, ?_, ?_, ?_, ?_, ?_⟩, fun x y x0 x1 y0 y1 => ?_, fun c2 c0 c1 c3 => ?_, fun x y x0 x1 y0 y1 => ?_, fun x y x0 x1 y0 y1 => ?_⟩
  rotate_right 3
  · by_cases q : c2 = c
    · rw [q, ua_eq]
      show x + 4 * y = st S 13 0 c x 13 0 c + 4 * st (st S 13 0 c x) 14 0 c y 14 0 c
      rw [st_eq, st_eq]
    · rw [ua_ne (by omega)]
      show _ = st S 13 0 c x 13 0 c2 + 4 * st (st S 13 0 c x) 14 0 c y 14 0 c2
      rw [st_nes q, st_nes q]
      exact hc c2 c0 c1 c3
  all_goals (rw [ua_ne (by omega)]; first | assumption | exact hb x y x0 x1 y0 y1 | exact hh x y x0 x1 y0 y1 | exact ht x y x0 x1 y0 y1)
end
theorem RR_eq {a : Int → Int} {S S' : Sl} (h : RR a S) (e : S' = S) : RR a S' := by rw [e]; exact h
theorem fin_bc4 : ∀ x, x < 64 → ∀ w, w < 4 → orI (andI (x : Nat) (-4)) (w : Nat) = (w : Nat) + 4 * ((x / 4 : Nat) : Int) := by decide +kernel
theorem b_bc4 {x y w : Int} (hx : 0 ≤ x ∧ x ≤ 3) (hy : 0 ≤ y ∧ y < 16) (hw : 0 ≤ w ∧ w ≤ 3) : orI (andI (x + 4 * y) (-4)) w = w + 4 * y := by
  obtain ⟨x, rfl⟩ := Int.eq_ofNat_of_zero_le hx.1
  obtain ⟨y, rfl⟩ := Int.eq_ofNat_of_zero_le hy.1
  obtain ⟨w, rfl⟩ := Int.eq_ofNat_of_zero_le hw.1
  have := fin_bc4 (x + 4 * y) (by omega) w (by omega)
  rw [show (x + 4 * y) / 4 = y by omega] at this
  exact this
theorem fin_or4 : ∀ x, x < 4 → ∀ y, y < 16 → ∀ s, s < 4 → orI ((x : Nat) + 4 * (y : Nat)) (shlI 4 (s : Nat)) = (x : Nat) + 4 * orI (y : Nat) (shlI 1 (s : Nat)) := by decide +kernel
theorem b_or4 {x y s : Int} (hx : 0 ≤ x ∧ x ≤ 3) (hy : 0 ≤ y ∧ y < 16) (hs : 0 ≤ s ∧ s < 4) : orI (x + 4 * y) (shlI 4 s) = x + 4 * orI y (shlI 1 s) := by
  obtain ⟨x, rfl⟩ := Int.eq_ofNat_of_zero_le hx.1
  obtain ⟨y, rfl⟩ := Int.eq_ofNat_of_zero_le hy.1
  obtain ⟨s, rfl⟩ := Int.eq_ofNat_of_zero_le hs.1
  exact fin_or4 x (by omega) y (by omega) s (by omega)
theorem bec_0 {S : Sl} {f w : Int} : bec S f 0 w = S := by
  funext K i s
  exact if_neg (fun z => by omega)
theorem bec_s {S : Sl} {f k w : Int} (h : 0 ≤ k) : bec S f (k + 1) w = st (st (bec S f k w) 13 0 (f + k) w) 14 0 (f + k) (S 14 0 (f + k)) := by
  funext K i s
  by_cases z : K = 14 ∧ i = 0 ∧ s = f + k
  · obtain ⟨rfl, rfl, rfl⟩ := z
    rw [st_eq]; rfl
  · rw [show st (st (bec S f k w) 13 0 (f + k) w) 14 0 (f + k) (S 14 0 (f + k)) K i s = st (bec S f k w) 13 0 (f + k) w K i s from if_neg z]
    by_cases y : K = 13 ∧ i = 0 ∧ s = f + k
    · obtain ⟨rfl, rfl, rfl⟩ := y
      rw [st_eq, bec_in (by omega) (by omega)]
    · rw [show st (bec S f k w) 13 0 (f + k) w K i s = bec S f k w K i s from if_neg y]
      unfold bec
      by_cases x : K = 13 ∧ i = 0 ∧ f ≤ s ∧ s < f + k
      · rw [if_pos x, if_pos ⟨x.1, x.2.1, x.2.2.1, by omega⟩]
      · rw [if_neg x, if_neg (fun u => by
          by_cases v : s = f + k
          · exact y ⟨u.1, u.2.1, v⟩
          · exact x ⟨u.1, u.2.1, u.2.2.1, by omega⟩)]
theorem st_comm {S : Sl} {K K' : Nat} {i s v i' s' v' : Int} (h : ¬ (K = K' ∧ i = i' ∧ s = s')) : st (st S K i s v) K' i' s' v' = st (st S K' i' s' v') K i s v := by
  funext A b c
  unfold st
  by_cases x : A = K ∧ b = i ∧ c = s
  · by_cases y : A = K' ∧ b = i' ∧ c = s'
    · exact absurd ⟨x.1.symm.trans y.1, x.2.1.symm.trans y.2.1, x.2.2.symm.trans y.2.2⟩ h
    · rw [if_neg y, if_pos x, if_pos x]
  · by_cases y : A = K' ∧ b = i' ∧ c = s'
    · rw [if_pos y, if_neg x, if_pos y]
    · rw [if_neg y, if_neg x, if_neg x, if_neg y]
theorem st_bec {S : Sl} {K : Nat} {i s v f n w : Int} (h : K ≠ 13) : bec (st S K i s v) f n w = st (bec S f n w) K i s v := by
  funext A b c
  unfold bec st
  by_cases x : A = 13 ∧ b = 0 ∧ f ≤ c ∧ c < f + n
  · rw [if_pos x, if_neg (fun z => h (z.1.symm.trans x.1))]; exact (if_pos x).symm
  · rw [if_neg x]
    by_cases y : A = K ∧ b = i ∧ c = s
    · rw [if_pos y, if_pos y]
    · rw [if_neg y, if_neg y]; exact (if_neg x).symm
theorem SHo_eq {a a' : Int → Int} {S S' : Sl} (h : SHo a S) (e : a' 4 = a 4) (e4 : S' 5 0 4 = S 5 0 4) (e6 : ∀ t, 0 ≤ t → t < S 5 0 4 → (S' 6 t 0 = 3 ↔ S 6 t 0 = 3)) : SHo a' S' := by
  unfold SHo at *
  rw [e, h, e4]
  exact sm_congr (fun t t0 t1 => bi_iff (e6 t t0 (by omega)).symm)
/-- the chairs of a group, as the reference's row has them -/
def BC (S : Sl) (f n : Int) : Prop := ∀ c, f ≤ c → c < f + n → (0 ≤ c ∧ c < 600 ∧ c % 100 < 60) ∧ (0 ≤ S 13 0 c ∧ S 13 0 c ≤ 3) ∧ (0 ≤ S 14 0 c ∧ S 14 0 c < 16)
theorem BC_of {m : Int} {S : Sl} (hI : Inv m S) {f n : Int} (h : HO S f n) : BC S f n := fun c c0 c1 => by
  have q := isCh_r hI (HO_ch hI h c0 c1)
  have p := hI.2.2.1 c q.1 q.2.1
  exact ⟨q, p.1, p.2.1⟩
