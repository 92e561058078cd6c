section
variable {n p nd c : Nat} {par rev st pcs regs plen pop px py kd hm lk ht sl path : Nat → Int32}
theorem mb_o8 : ∀ o : Nat, o < 8 → (nI o = 0 ∨ nI o = 1 ∨ nI o = 2 ∨ nI o = 3 ∨ nI o = 4 ∨ nI o = 5 ∨ nI o = 6 ∨ nI o = 7) := by decide
theorem mb_neg : ∀ e : Nat, e ≤ 3 → (-1 : Int32) - (-1 - nI e) = nI e := by decide
theorem mb_nle : ∀ e : Nat, e ≤ 3 → 1 ≤ e → ¬ ((-1 : Int32) ≤ -1 - nI e) := by decide
theorem mx_ok {post : Int32 → St2 → Prop} {x : Nat} {r : Int32} (h : x < 16) (nf : -1 ≤ r) (K : post r (nI n, nI p, nI nd, nI c, par, rev, st, pcs, (upd regs x r), plen, pop, px, py, kd, hm, lk, ht, sl, path)) : wX_execute_139 post (nI x) r (nI n) (nI p) (nI nd) (nI c) par rev st pcs regs plen pop px py kd hm lk ht sl path := by
  simp (disch := omega) only [wX_execute_139, wpX_isFault, nI_clamp, vp_in_nI, nI_1, nI_add, mb_lt_t, mb_lt_f, mb_le_t, mb_le_f, mb_ne, mb_lt0, mb_le0, mb_m1, mb_m1l, mb_m1g, mb_m1n, mb_x2, mb_x4, mb_x32, mb_lt_4, mb_le_4, mb_ge_4, mb_gt_4, mb_le_3, mb_gt_3, mb_le_7, mb_gt_7, mb_lt_32, mb_ge_32, mb_lt_128, mb_ge_128, mb_ge_1, mb_lt_1, mb_ge_1f, mb_lt_1t, not_true, not_false_iff, false_implies, true_implies, true_and, and_true, forall_eq, forall_const, eq_self, mb_e10, nf]
  exact K
theorem mx_fl {post : Int32 → St2 → Prop} {x : Int32} {r : Int32} (nf : ¬ -1 ≤ r) (K : post r (nI n, nI p, nI nd, nI c, par, rev, st, pcs, regs, plen, pop, px, py, kd, hm, lk, ht, sl, path)) : wX_execute_139 post x r (nI n) (nI p) (nI nd) (nI c) par rev st pcs regs plen pop px py kd hm lk ht sl path := by
  simp (disch := omega) only [wX_execute_139, wpX_isFault, nI_clamp, vp_in_nI, nI_1, nI_add, mb_lt_t, mb_lt_f, mb_le_t, mb_le_f, mb_ne, mb_lt0, mb_le0, mb_m1, mb_m1l, mb_m1g, mb_m1n, mb_x2, mb_x4, mb_x32, mb_lt_4, mb_le_4, mb_ge_4, mb_gt_4, mb_le_3, mb_gt_3, mb_le_7, mb_gt_7, mb_lt_32, mb_ge_32, mb_lt_128, mb_ge_128, mb_ge_1, mb_lt_1, mb_ge_1f, mb_lt_1t, not_true, not_false_iff, false_implies, true_implies, true_and, and_true, forall_eq, forall_const, eq_self, mb_e10, nf]
  exact K
theorem mx_get {post : Int32 → St2 → Prop} {d x y : Nat} {op r rX : Int32} {c' : Nat} {kd' hm' lk' ht' sl' rev' path' : Nat → Int32} (hop : op = 2 ∨ op = 3) (hd : d < 4) (h1 : x < 4) (h2 : y < 4) (er : regs (d * 4 + y) = r)
    (iX : ∀ post' : Int32 → St2 → Prop, post' rX (nI n, nI p, nI nd, nI c', par, rev', st, pcs, regs, plen, pop, px, py, kd', hm', lk', ht', sl', path') → wpX_invoke post' (nI n, nI p, nI nd, nI c, par, rev, st, pcs, regs, plen, pop, px, py, kd, hm, lk, ht, sl, path) (nI d) r op (-1)) (K : wX_execute_139 post (nI (d * 4 + x)) rX (nI n) (nI p) (nI nd) (nI c') par rev' st pcs regs plen pop px py kd' hm' lk' ht' sl' path') :
    wpX_execute post (nI n, nI p, nI nd, nI c, par, rev, st, pcs, regs, plen, pop, px, py, kd, hm, lk, ht, sl, path) (nI d) op (nI x) (nI y) := by
  rcases hop with rfl | rfl
  · simp (disch := omega) only [wpX_execute, wX_execute_84, nI_clamp, vp_in_nI, nI_1, nI_add, mb_lt_t, mb_lt_f, mb_le_t, mb_le_f, mb_ne, mb_lt0, mb_le0, mb_m1, mb_m1l, mb_m1g, mb_m1n, mb_x2, mb_x4, mb_x32, mb_lt_4, mb_le_4, mb_ge_4, mb_gt_4, mb_le_3, mb_gt_3, mb_le_7, mb_gt_7, mb_lt_32, mb_ge_32, mb_lt_128, mb_ge_128, mb_ge_1, mb_lt_1, mb_ge_1f, mb_lt_1t, not_true, not_false_iff, false_implies, true_implies, true_and, and_true, forall_eq, forall_const, eq_self, mb_e10, mb_e01, mb_e02, mb_e03, mb_e04, mb_e05, mb_e06, mb_e07, mb_l00, mb_l02, mb_g50, mb_g60, mb_e10, mb_e12, mb_e13, mb_e14, mb_e15, mb_e16, mb_e17, mb_l10, mb_l12, mb_g51, mb_g61, mb_e20, mb_e21, mb_e23, mb_e24, mb_e25, mb_e26, mb_e27, mb_l20, mb_l22, mb_g52, mb_g62, mb_e30, mb_e31, mb_e32, mb_e34, mb_e35, mb_e36, mb_e37, mb_l30, mb_l32, mb_g53, mb_g63, mb_e40, mb_e41, mb_e42, mb_e43, mb_e45, mb_e46, mb_e47, mb_l40, mb_l42, mb_g54, mb_g64, mb_e50, mb_e51, mb_e52, mb_e53, mb_e54, mb_e56, mb_e57, mb_l50, mb_l52, mb_g55, mb_g65, mb_e60, mb_e61, mb_e62, mb_e63, mb_e64, mb_e65, mb_e67, mb_l60, mb_l62, mb_g56, mb_g66, mb_e70, mb_e71, mb_e72, mb_e73, mb_e74, mb_e75, mb_e76, mb_l70, mb_l72, mb_g57, mb_g67, er]
    exact iX _ K
  · simp (disch := omega) only [wpX_execute, wX_execute_84, nI_clamp, vp_in_nI, nI_1, nI_add, mb_lt_t, mb_lt_f, mb_le_t, mb_le_f, mb_ne, mb_lt0, mb_le0, mb_m1, mb_m1l, mb_m1g, mb_m1n, mb_x2, mb_x4, mb_x32, mb_lt_4, mb_le_4, mb_ge_4, mb_gt_4, mb_le_3, mb_gt_3, mb_le_7, mb_gt_7, mb_lt_32, mb_ge_32, mb_lt_128, mb_ge_128, mb_ge_1, mb_lt_1, mb_ge_1f, mb_lt_1t, not_true, not_false_iff, false_implies, true_implies, true_and, and_true, forall_eq, forall_const, eq_self, mb_e10, mb_e01, mb_e02, mb_e03, mb_e04, mb_e05, mb_e06, mb_e07, mb_l00, mb_l02, mb_g50, mb_g60, mb_e10, mb_e12, mb_e13, mb_e14, mb_e15, mb_e16, mb_e17, mb_l10, mb_l12, mb_g51, mb_g61, mb_e20, mb_e21, mb_e23, mb_e24, mb_e25, mb_e26, mb_e27, mb_l20, mb_l22, mb_g52, mb_g62, mb_e30, mb_e31, mb_e32, mb_e34, mb_e35, mb_e36, mb_e37, mb_l30, mb_l32, mb_g53, mb_g63, mb_e40, mb_e41, mb_e42, mb_e43, mb_e45, mb_e46, mb_e47, mb_l40, mb_l42, mb_g54, mb_g64, mb_e50, mb_e51, mb_e52, mb_e53, mb_e54, mb_e56, mb_e57, mb_l50, mb_l52, mb_g55, mb_g65, mb_e60, mb_e61, mb_e62, mb_e63, mb_e64, mb_e65, mb_e67, mb_l60, mb_l62, mb_g56, mb_g66, mb_e70, mb_e71, mb_e72, mb_e73, mb_e74, mb_e75, mb_e76, mb_l70, mb_l72, mb_g57, mb_g67, er]
    exact iX _ K
theorem mx_put {post : Int32 → St2 → Prop} {d x y : Nat} {op r a rX : Int32} {c' : Nat} {kd' hm' lk' ht' sl' rev' path' : Nat → Int32} (hop : op = 4 ∨ op = 5) (hd : d < 4) (h1 : x < 4) (h2 : y < 4) (er : regs (d * 4 + x) = r) (ea : regs (d * 4 + y) = a)
    (iX : ∀ post' : Int32 → St2 → Prop, post' rX (nI n, nI p, nI nd, nI c', par, rev', st, pcs, regs, plen, pop, px, py, kd', hm', lk', ht', sl', path') → wpX_invoke post' (nI n, nI p, nI nd, nI c, par, rev, st, pcs, regs, plen, pop, px, py, kd, hm, lk, ht, sl, path) (nI d) r op a) (K : post rX (nI n, nI p, nI nd, nI c', par, rev', st, pcs, regs, plen, pop, px, py, kd', hm', lk', ht', sl', path')) :
    wpX_execute post (nI n, nI p, nI nd, nI c, par, rev, st, pcs, regs, plen, pop, px, py, kd, hm, lk, ht, sl, path) (nI d) op (nI x) (nI y) := by
  rcases hop with rfl | rfl
  · simp (disch := omega) only [wpX_execute, wX_execute_103, nI_clamp, vp_in_nI, nI_1, nI_add, mb_lt_t, mb_lt_f, mb_le_t, mb_le_f, mb_ne, mb_lt0, mb_le0, mb_m1, mb_m1l, mb_m1g, mb_m1n, mb_x2, mb_x4, mb_x32, mb_lt_4, mb_le_4, mb_ge_4, mb_gt_4, mb_le_3, mb_gt_3, mb_le_7, mb_gt_7, mb_lt_32, mb_ge_32, mb_lt_128, mb_ge_128, mb_ge_1, mb_lt_1, mb_ge_1f, mb_lt_1t, not_true, not_false_iff, false_implies, true_implies, true_and, and_true, forall_eq, forall_const, eq_self, mb_e10, mb_e01, mb_e02, mb_e03, mb_e04, mb_e05, mb_e06, mb_e07, mb_l00, mb_l02, mb_g50, mb_g60, mb_e10, mb_e12, mb_e13, mb_e14, mb_e15, mb_e16, mb_e17, mb_l10, mb_l12, mb_g51, mb_g61, mb_e20, mb_e21, mb_e23, mb_e24, mb_e25, mb_e26, mb_e27, mb_l20, mb_l22, mb_g52, mb_g62, mb_e30, mb_e31, mb_e32, mb_e34, mb_e35, mb_e36, mb_e37, mb_l30, mb_l32, mb_g53, mb_g63, mb_e40, mb_e41, mb_e42, mb_e43, mb_e45, mb_e46, mb_e47, mb_l40, mb_l42, mb_g54, mb_g64, mb_e50, mb_e51, mb_e52, mb_e53, mb_e54, mb_e56, mb_e57, mb_l50, mb_l52, mb_g55, mb_g65, mb_e60, mb_e61, mb_e62, mb_e63, mb_e64, mb_e65, mb_e67, mb_l60, mb_l62, mb_g56, mb_g66, mb_e70, mb_e71, mb_e72, mb_e73, mb_e74, mb_e75, mb_e76, mb_l70, mb_l72, mb_g57, mb_g67, er, ea]
    exact iX _ K
  · simp (disch := omega) only [wpX_execute, wX_execute_103, nI_clamp, vp_in_nI, nI_1, nI_add, mb_lt_t, mb_lt_f, mb_le_t, mb_le_f, mb_ne, mb_lt0, mb_le0, mb_m1, mb_m1l, mb_m1g, mb_m1n, mb_x2, mb_x4, mb_x32, mb_lt_4, mb_le_4, mb_ge_4, mb_gt_4, mb_le_3, mb_gt_3, mb_le_7, mb_gt_7, mb_lt_32, mb_ge_32, mb_lt_128, mb_ge_128, mb_ge_1, mb_lt_1, mb_ge_1f, mb_lt_1t, not_true, not_false_iff, false_implies, true_implies, true_and, and_true, forall_eq, forall_const, eq_self, mb_e10, mb_e01, mb_e02, mb_e03, mb_e04, mb_e05, mb_e06, mb_e07, mb_l00, mb_l02, mb_g50, mb_g60, mb_e10, mb_e12, mb_e13, mb_e14, mb_e15, mb_e16, mb_e17, mb_l10, mb_l12, mb_g51, mb_g61, mb_e20, mb_e21, mb_e23, mb_e24, mb_e25, mb_e26, mb_e27, mb_l20, mb_l22, mb_g52, mb_g62, mb_e30, mb_e31, mb_e32, mb_e34, mb_e35, mb_e36, mb_e37, mb_l30, mb_l32, mb_g53, mb_g63, mb_e40, mb_e41, mb_e42, mb_e43, mb_e45, mb_e46, mb_e47, mb_l40, mb_l42, mb_g54, mb_g64, mb_e50, mb_e51, mb_e52, mb_e53, mb_e54, mb_e56, mb_e57, mb_l50, mb_l52, mb_g55, mb_g65, mb_e60, mb_e61, mb_e62, mb_e63, mb_e64, mb_e65, mb_e67, mb_l60, mb_l62, mb_g56, mb_g66, mb_e70, mb_e71, mb_e72, mb_e73, mb_e74, mb_e75, mb_e76, mb_l70, mb_l72, mb_g57, mb_g67, er, ea]
    exact iX _ K
theorem mx_poke {post : Int32 → St2 → Prop} {d x y : Nat} {r rX : Int32} {c' : Nat} {kd' hm' lk' ht' sl' rev' path' : Nat → Int32} (hd : d < 4) (h1 : x < 4) (h2 : y < 4) (er : regs (d * 4 + x) = r)
    (iX : ∀ post' : Int32 → St2 → Prop, post' rX (nI n, nI p, nI nd, nI c', par, rev', st, pcs, regs, plen, pop, px, py, kd', hm', lk', ht', sl', path') → wpX_invoke post' (nI n, nI p, nI nd, nI c, par, rev, st, pcs, regs, plen, pop, px, py, kd, hm, lk, ht, sl, path) (nI d) r 6 (-1)) (K : post rX (nI n, nI p, nI nd, nI c', par, rev', st, pcs, regs, plen, pop, px, py, kd', hm', lk', ht', sl', path')) :
    wpX_execute post (nI n, nI p, nI nd, nI c, par, rev, st, pcs, regs, plen, pop, px, py, kd, hm, lk, ht, sl, path) (nI d) 6 (nI x) (nI y) := by
  simp (disch := omega) only [wpX_execute, nI_clamp, vp_in_nI, nI_1, nI_add, mb_lt_t, mb_lt_f, mb_le_t, mb_le_f, mb_ne, mb_lt0, mb_le0, mb_m1, mb_m1l, mb_m1g, mb_m1n, mb_x2, mb_x4, mb_x32, mb_lt_4, mb_le_4, mb_ge_4, mb_gt_4, mb_le_3, mb_gt_3, mb_le_7, mb_gt_7, mb_lt_32, mb_ge_32, mb_lt_128, mb_ge_128, mb_ge_1, mb_lt_1, mb_ge_1f, mb_lt_1t, not_true, not_false_iff, false_implies, true_implies, true_and, and_true, forall_eq, forall_const, eq_self, mb_e10, mb_e01, mb_e02, mb_e03, mb_e04, mb_e05, mb_e06, mb_e07, mb_l00, mb_l02, mb_g50, mb_g60, mb_e10, mb_e12, mb_e13, mb_e14, mb_e15, mb_e16, mb_e17, mb_l10, mb_l12, mb_g51, mb_g61, mb_e20, mb_e21, mb_e23, mb_e24, mb_e25, mb_e26, mb_e27, mb_l20, mb_l22, mb_g52, mb_g62, mb_e30, mb_e31, mb_e32, mb_e34, mb_e35, mb_e36, mb_e37, mb_l30, mb_l32, mb_g53, mb_g63, mb_e40, mb_e41, mb_e42, mb_e43, mb_e45, mb_e46, mb_e47, mb_l40, mb_l42, mb_g54, mb_g64, mb_e50, mb_e51, mb_e52, mb_e53, mb_e54, mb_e56, mb_e57, mb_l50, mb_l52, mb_g55, mb_g65, mb_e60, mb_e61, mb_e62, mb_e63, mb_e64, mb_e65, mb_e67, mb_l60, mb_l62, mb_g56, mb_g66, mb_e70, mb_e71, mb_e72, mb_e73, mb_e74, mb_e75, mb_e76, mb_l70, mb_l72, mb_g57, mb_g67, er]
  exact iX _ K
/-- one instruction -/
theorem mb_exec (I : mb_I n p nd c par pcs regs plen pop px py kd hm lk sl) {d o x y : Nat} (hd : d < nd) (h0 : o < 8) (h1 : x < 4) (h2 : y < 4) (rev st ht path : Nat → Int32) :
    ∃ (c' : Nat) (kd' hm' lk' ht' sl' : Nat → Int32) (rev' regs' path' : Nat → Int32) (rX : Int32) (e : Nat), mb_I n p nd c' par pcs regs' plen pop px py kd' hm' lk' sl' ∧ mb_E c kd hm lk c' kd' hm' lk' ∧ mb_V nd rev rev' ∧ e ≤ 3 ∧ ((e = 0 ∧ -1 ≤ rX) ∨ (1 ≤ e ∧ rX = -1 - nI e)) ∧
      (∀ S, mb_cl par rev nd S → S (nI d) → mb_Fr S c hm ht sl ht' sl' ∧ mb_Fg S nd regs regs') ∧
      (∀ post : Int32 → St2 → Prop, post rX (nI n, nI p, nI nd, nI c', par, rev', st, pcs, regs', plen, pop, px, py, kd', hm', lk', ht', sl', path') → wpX_execute post (nI n, nI p, nI nd, nI c, par, rev, st, pcs, regs, plen, pop, px, py, kd, hm, lk, ht, sl, path) (nI d) (nI o) (nI x) (nI y)) := by
  obtain ⟨H, hn8, hp8, hp, hP, hR, hG⟩ := I
  have hn : n ≤ 32 := H.2.1
  have hcn : c ≤ n := H.1
  have hnd : nd ≤ 4 := H.2.2.2.1
  have rx := hR.1 d x hd h1
  have ry := hR.1 d y hd h2
  have eo := mb_o8 o h0
  generalize nI o = op at eo ⊢
  rcases eo with rfl | rfl | z | z | z | z | rfl | rfl
  · -- NEW
    by_cases hc : c < n
    · refine ⟨c + 1, upd kd c 1, upd hm c (nI d), upd lk c (-1), upd ht c 0, upd (upd sl (c * 2) (-1)) (c * 2 + 1) (-1), rev, upd regs (d * 4 + x) (nI c), path, nI c, 0,
        ⟨mb_mk H hc ⟨d, hd, pk_us, Or.inl ⟨pk_us, pk_us⟩⟩ (fun z => absurd z (by decide)), hn8, hp8, hp, hP, mb_R_set (mb_R_up hR (mb_mkE (kd := kd) (lk := lk) (k := 1) (l := -1))) hd h1 (Or.inr ⟨c, by omega, rfl, pk_us⟩), hG⟩, mb_mkE, mb_V_rf, by omega, Or.inl ⟨rfl, of_eq_true (mb_m1l (by omega))⟩, fun S _ s => ⟨mb_mkF, mb_Fg_set h1 s⟩, ?_⟩
      intro post K
      simp (disch := omega) only [wpX_execute, nI_clamp, vp_in_nI, nI_1, nI_add, mb_lt_t, mb_lt_f, mb_le_t, mb_le_f, mb_ne, mb_lt0, mb_le0, mb_m1, mb_m1l, mb_m1g, mb_m1n, mb_x2, mb_x4, mb_x32, mb_lt_4, mb_le_4, mb_ge_4, mb_gt_4, mb_le_3, mb_gt_3, mb_le_7, mb_gt_7, mb_lt_32, mb_ge_32, mb_lt_128, mb_ge_128, mb_ge_1, mb_lt_1, mb_ge_1f, mb_lt_1t, not_true, not_false_iff, false_implies, true_implies, true_and, and_true, forall_eq, forall_const, eq_self, mb_e10, mb_e01, mb_e02, mb_e03, mb_e04, mb_e05, mb_e06, mb_e07, mb_l00, mb_l02, mb_g50, mb_g60, mb_e10, mb_e12, mb_e13, mb_e14, mb_e15, mb_e16, mb_e17, mb_l10, mb_l12, mb_g51, mb_g61, mb_e20, mb_e21, mb_e23, mb_e24, mb_e25, mb_e26, mb_e27, mb_l20, mb_l22, mb_g52, mb_g62, mb_e30, mb_e31, mb_e32, mb_e34, mb_e35, mb_e36, mb_e37, mb_l30, mb_l32, mb_g53, mb_g63, mb_e40, mb_e41, mb_e42, mb_e43, mb_e45, mb_e46, mb_e47, mb_l40, mb_l42, mb_g54, mb_g64, mb_e50, mb_e51, mb_e52, mb_e53, mb_e54, mb_e56, mb_e57, mb_l50, mb_l52, mb_g55, mb_g65, mb_e60, mb_e61, mb_e62, mb_e63, mb_e64, mb_e65, mb_e67, mb_l60, mb_l62, mb_g56, mb_g66, mb_e70, mb_e71, mb_e72, mb_e73, mb_e74, mb_e75, mb_e76, mb_l70, mb_l72, mb_g57, mb_g67]
      exact mx_mk hc hn (mx_ok (by omega) (of_eq_true (mb_m1l (by omega))) K)
    · refine ⟨c, kd, hm, lk, ht, sl, rev, regs, path, -4, 3, ⟨H, hn8, hp8, hp, hP, hR, hG⟩, mb_E_rf, mb_V_rf, by omega, Or.inr ⟨by omega, by decide⟩, fun S _ s => ⟨mb_Fr_rf, mb_Fg_rf⟩, ?_⟩
      intro post K
      simp (disch := omega) only [wpX_execute, nI_clamp, vp_in_nI, nI_1, nI_add, mb_lt_t, mb_lt_f, mb_le_t, mb_le_f, mb_ne, mb_lt0, mb_le0, mb_m1, mb_m1l, mb_m1g, mb_m1n, mb_x2, mb_x4, mb_x32, mb_lt_4, mb_le_4, mb_ge_4, mb_gt_4, mb_le_3, mb_gt_3, mb_le_7, mb_gt_7, mb_lt_32, mb_ge_32, mb_lt_128, mb_ge_128, mb_ge_1, mb_lt_1, mb_ge_1f, mb_lt_1t, not_true, not_false_iff, false_implies, true_implies, true_and, and_true, forall_eq, forall_const, eq_self, mb_e10, mb_e01, mb_e02, mb_e03, mb_e04, mb_e05, mb_e06, mb_e07, mb_l00, mb_l02, mb_g50, mb_g60, mb_e10, mb_e12, mb_e13, mb_e14, mb_e15, mb_e16, mb_e17, mb_l10, mb_l12, mb_g51, mb_g61, mb_e20, mb_e21, mb_e23, mb_e24, mb_e25, mb_e26, mb_e27, mb_l20, mb_l22, mb_g52, mb_g62, mb_e30, mb_e31, mb_e32, mb_e34, mb_e35, mb_e36, mb_e37, mb_l30, mb_l32, mb_g53, mb_g63, mb_e40, mb_e41, mb_e42, mb_e43, mb_e45, mb_e46, mb_e47, mb_l40, mb_l42, mb_g54, mb_g64, mb_e50, mb_e51, mb_e52, mb_e53, mb_e54, mb_e56, mb_e57, mb_l50, mb_l52, mb_g55, mb_g65, mb_e60, mb_e61, mb_e62, mb_e63, mb_e64, mb_e65, mb_e67, mb_l60, mb_l62, mb_g56, mb_g66, mb_e70, mb_e71, mb_e72, mb_e73, mb_e74, mb_e75, mb_e76, mb_l70, mb_l72, mb_g57, mb_g67]
      exact mx_full (by omega) (by omega) (mx_fl (by decide) K)
  · -- MOV
    refine ⟨c, kd, hm, lk, ht, sl, rev, upd regs (d * 4 + x) (regs (d * 4 + y)), path, regs (d * 4 + y), 0, ⟨H, hn8, hp8, hp, hP, mb_R_set hR hd h1 ry, hG⟩, mb_E_rf, mb_V_rf, by omega, Or.inl ⟨rfl, mb_rf_le ry (by omega)⟩, fun S _ s => ⟨mb_Fr_rf, mb_Fg_set h1 s⟩, ?_⟩
    intro post K
    simp (disch := omega) only [wpX_execute, nI_clamp, vp_in_nI, nI_1, nI_add, mb_lt_t, mb_lt_f, mb_le_t, mb_le_f, mb_ne, mb_lt0, mb_le0, mb_m1, mb_m1l, mb_m1g, mb_m1n, mb_x2, mb_x4, mb_x32, mb_lt_4, mb_le_4, mb_ge_4, mb_gt_4, mb_le_3, mb_gt_3, mb_le_7, mb_gt_7, mb_lt_32, mb_ge_32, mb_lt_128, mb_ge_128, mb_ge_1, mb_lt_1, mb_ge_1f, mb_lt_1t, not_true, not_false_iff, false_implies, true_implies, true_and, and_true, forall_eq, forall_const, eq_self, mb_e10, mb_e01, mb_e02, mb_e03, mb_e04, mb_e05, mb_e06, mb_e07, mb_l00, mb_l02, mb_g50, mb_g60, mb_e10, mb_e12, mb_e13, mb_e14, mb_e15, mb_e16, mb_e17, mb_l10, mb_l12, mb_g51, mb_g61, mb_e20, mb_e21, mb_e23, mb_e24, mb_e25, mb_e26, mb_e27, mb_l20, mb_l22, mb_g52, mb_g62, mb_e30, mb_e31, mb_e32, mb_e34, mb_e35, mb_e36, mb_e37, mb_l30, mb_l32, mb_g53, mb_g63, mb_e40, mb_e41, mb_e42, mb_e43, mb_e45, mb_e46, mb_e47, mb_l40, mb_l42, mb_g54, mb_g64, mb_e50, mb_e51, mb_e52, mb_e53, mb_e54, mb_e56, mb_e57, mb_l50, mb_l52, mb_g55, mb_g65, mb_e60, mb_e61, mb_e62, mb_e63, mb_e64, mb_e65, mb_e67, mb_l60, mb_l62, mb_g56, mb_g66, mb_e70, mb_e71, mb_e72, mb_e73, mb_e74, mb_e75, mb_e76, mb_l70, mb_l72, mb_g57, mb_g67]
    exact mx_ok (by omega) (mb_rf_le ry (by omega)) K
  · -- GET0
    obtain ⟨c', kd', hm', lk', ht', sl', rev', path', rX, H2, E2, V2, A2, F2, iX⟩ := mb_invoke H (Or.inl z) ry hd (Or.inl rfl) rev ht path
    have hc2 : c' ≤ 32 := Nat.le_trans H2.1 H2.2.1
    rcases A2 with hr | ⟨e, a1, a2, rfl⟩
    · have hle := mb_rf_le hr hc2
      refine ⟨c', kd', hm', lk', ht', sl', rev', upd regs (d * 4 + x) rX, path', rX, 0, ⟨H2, hn8, hp8, hp, hP, mb_R_set (mb_R_up hR E2) hd h1 hr, hG⟩, E2, V2, by omega, Or.inl ⟨rfl, hle⟩, fun S cl s => ⟨F2 S cl s, mb_Fg_set h1 s⟩, ?_⟩
      intro post K
      exact mx_get (Or.inl z) (by omega) h1 h2 rfl (fun post' K' => iX p st pcs regs plen pop px py post' K') (mx_ok (by omega) hle K)
    · refine ⟨c', kd', hm', lk', ht', sl', rev', regs, path', -1 - nI e, e, ⟨H2, hn8, hp8, hp, hP, mb_R_up hR E2, hG⟩, E2, V2, a2, Or.inr ⟨a1, rfl⟩, fun S cl s => ⟨F2 S cl s, mb_Fg_rf⟩, ?_⟩
      intro post K
      exact mx_get (Or.inl z) (by omega) h1 h2 rfl (fun post' K' => iX p st pcs regs plen pop px py post' K') (mx_fl (mb_nle e a2 a1) K)
  · -- GET1
    obtain ⟨c', kd', hm', lk', ht', sl', rev', path', rX, H2, E2, V2, A2, F2, iX⟩ := mb_invoke H (Or.inr (Or.inl z)) ry hd (Or.inl rfl) rev ht path
    have hc2 : c' ≤ 32 := Nat.le_trans H2.1 H2.2.1
    rcases A2 with hr | ⟨e, a1, a2, rfl⟩
    · have hle := mb_rf_le hr hc2
      refine ⟨c', kd', hm', lk', ht', sl', rev', upd regs (d * 4 + x) rX, path', rX, 0, ⟨H2, hn8, hp8, hp, hP, mb_R_set (mb_R_up hR E2) hd h1 hr, hG⟩, E2, V2, by omega, Or.inl ⟨rfl, hle⟩, fun S cl s => ⟨F2 S cl s, mb_Fg_set h1 s⟩, ?_⟩
      intro post K
      exact mx_get (Or.inr z) (by omega) h1 h2 rfl (fun post' K' => iX p st pcs regs plen pop px py post' K') (mx_ok (by omega) hle K)
    · refine ⟨c', kd', hm', lk', ht', sl', rev', regs, path', -1 - nI e, e, ⟨H2, hn8, hp8, hp, hP, mb_R_up hR E2, hG⟩, E2, V2, a2, Or.inr ⟨a1, rfl⟩, fun S cl s => ⟨F2 S cl s, mb_Fg_rf⟩, ?_⟩
      intro post K
      exact mx_get (Or.inr z) (by omega) h1 h2 rfl (fun post' K' => iX p st pcs regs plen pop px py post' K') (mx_fl (mb_nle e a2 a1) K)
  · -- SET0
    obtain ⟨c', kd', hm', lk', ht', sl', rev', path', rX, H2, E2, V2, A2, F2, iX⟩ := mb_invoke H (Or.inr (Or.inr (Or.inl z))) rx hd ry rev ht path
    have hc2 : c' ≤ 32 := Nat.le_trans H2.1 H2.2.1
    rcases A2 with hr | ⟨e, a1, a2, rfl⟩
    · refine ⟨c', kd', hm', lk', ht', sl', rev', regs, path', rX, 0, ⟨H2, hn8, hp8, hp, hP, mb_R_up hR E2, hG⟩, E2, V2, by omega, Or.inl ⟨rfl, mb_rf_le hr hc2⟩, fun S cl s => ⟨F2 S cl s, mb_Fg_rf⟩, ?_⟩
      intro post K
      exact mx_put (Or.inl z) (by omega) h1 h2 rfl rfl (fun post' K' => iX p st pcs regs plen pop px py post' K') K
    · refine ⟨c', kd', hm', lk', ht', sl', rev', regs, path', -1 - nI e, e, ⟨H2, hn8, hp8, hp, hP, mb_R_up hR E2, hG⟩, E2, V2, a2, Or.inr ⟨a1, rfl⟩, fun S cl s => ⟨F2 S cl s, mb_Fg_rf⟩, ?_⟩
      intro post K
      exact mx_put (Or.inl z) (by omega) h1 h2 rfl rfl (fun post' K' => iX p st pcs regs plen pop px py post' K') K
  · -- SET1
    obtain ⟨c', kd', hm', lk', ht', sl', rev', path', rX, H2, E2, V2, A2, F2, iX⟩ := mb_invoke H (Or.inr (Or.inr (Or.inr (Or.inl z)))) rx hd ry rev ht path
    have hc2 : c' ≤ 32 := Nat.le_trans H2.1 H2.2.1
    rcases A2 with hr | ⟨e, a1, a2, rfl⟩
    · refine ⟨c', kd', hm', lk', ht', sl', rev', regs, path', rX, 0, ⟨H2, hn8, hp8, hp, hP, mb_R_up hR E2, hG⟩, E2, V2, by omega, Or.inl ⟨rfl, mb_rf_le hr hc2⟩, fun S cl s => ⟨F2 S cl s, mb_Fg_rf⟩, ?_⟩
      intro post K
      exact mx_put (Or.inr z) (by omega) h1 h2 rfl rfl (fun post' K' => iX p st pcs regs plen pop px py post' K') K
    · refine ⟨c', kd', hm', lk', ht', sl', rev', regs, path', -1 - nI e, e, ⟨H2, hn8, hp8, hp, hP, mb_R_up hR E2, hG⟩, E2, V2, a2, Or.inr ⟨a1, rfl⟩, fun S cl s => ⟨F2 S cl s, mb_Fg_rf⟩, ?_⟩
      intro post K
      exact mx_put (Or.inr z) (by omega) h1 h2 rfl rfl (fun post' K' => iX p st pcs regs plen pop px py post' K') K
  · -- POKE
    obtain ⟨c', kd', hm', lk', ht', sl', rev', path', rX, H2, E2, V2, A2, F2, iX⟩ := mb_invoke H (Or.inr (Or.inr (Or.inr (Or.inr rfl)))) rx hd (Or.inl rfl) rev ht path
    have hc2 : c' ≤ 32 := Nat.le_trans H2.1 H2.2.1
    rcases A2 with hr | ⟨e, a1, a2, rfl⟩
    · refine ⟨c', kd', hm', lk', ht', sl', rev', regs, path', rX, 0, ⟨H2, hn8, hp8, hp, hP, mb_R_up hR E2, hG⟩, E2, V2, by omega, Or.inl ⟨rfl, mb_rf_le hr hc2⟩, fun S cl s => ⟨F2 S cl s, mb_Fg_rf⟩, ?_⟩
      intro post K
      exact mx_poke (by omega) h1 h2 rfl (fun post' K' => iX p st pcs regs plen pop px py post' K') K
    · refine ⟨c', kd', hm', lk', ht', sl', rev', regs, path', -1 - nI e, e, ⟨H2, hn8, hp8, hp, hP, mb_R_up hR E2, hG⟩, E2, V2, a2, Or.inr ⟨a1, rfl⟩, fun S cl s => ⟨F2 S cl s, mb_Fg_rf⟩, ?_⟩
      intro post K
      exact mx_poke (by omega) h1 h2 rfl (fun post' K' => iX p st pcs regs plen pop px py post' K') K
  · -- DROP
    refine ⟨c, kd, hm, lk, ht, sl, rev, upd regs (d * 4 + x) (-1), path, -1, 0, ⟨H, hn8, hp8, hp, hP, mb_R_set hR hd h1 (Or.inl rfl), hG⟩, mb_E_rf, mb_V_rf, by omega, Or.inl ⟨rfl, by decide⟩, fun S _ s => ⟨mb_Fr_rf, mb_Fg_set h1 s⟩, ?_⟩
    intro post K
    simp (disch := omega) only [wpX_execute, nI_clamp, vp_in_nI, nI_1, nI_add, mb_lt_t, mb_lt_f, mb_le_t, mb_le_f, mb_ne, mb_lt0, mb_le0, mb_m1, mb_m1l, mb_m1g, mb_m1n, mb_x2, mb_x4, mb_x32, mb_lt_4, mb_le_4, mb_ge_4, mb_gt_4, mb_le_3, mb_gt_3, mb_le_7, mb_gt_7, mb_lt_32, mb_ge_32, mb_lt_128, mb_ge_128, mb_ge_1, mb_lt_1, mb_ge_1f, mb_lt_1t, not_true, not_false_iff, false_implies, true_implies, true_and, and_true, forall_eq, forall_const, eq_self, mb_e10, mb_e01, mb_e02, mb_e03, mb_e04, mb_e05, mb_e06, mb_e07, mb_l00, mb_l02, mb_g50, mb_g60, mb_e10, mb_e12, mb_e13, mb_e14, mb_e15, mb_e16, mb_e17, mb_l10, mb_l12, mb_g51, mb_g61, mb_e20, mb_e21, mb_e23, mb_e24, mb_e25, mb_e26, mb_e27, mb_l20, mb_l22, mb_g52, mb_g62, mb_e30, mb_e31, mb_e32, mb_e34, mb_e35, mb_e36, mb_e37, mb_l30, mb_l32, mb_g53, mb_g63, mb_e40, mb_e41, mb_e42, mb_e43, mb_e45, mb_e46, mb_e47, mb_l40, mb_l42, mb_g54, mb_g64, mb_e50, mb_e51, mb_e52, mb_e53, mb_e54, mb_e56, mb_e57, mb_l50, mb_l52, mb_g55, mb_g65, mb_e60, mb_e61, mb_e62, mb_e63, mb_e64, mb_e65, mb_e67, mb_l60, mb_l62, mb_g56, mb_g66, mb_e70, mb_e71, mb_e72, mb_e73, mb_e74, mb_e75, mb_e76, mb_l70, mb_l72, mb_g57, mb_g67]
    exact mx_ok (by omega) (by decide) K
end
