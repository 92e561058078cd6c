section
variable {n p nd c c1 : Nat} {par rev st pcs regs plen pop px py kd hm lk ht sl path hx he kd1 hm1 lk1 ht1 sl1 : Nat → Int32} {flt aX aY res op arg : Int32}
theorem mb_ev_ap {sl : Nat → Int32} {i : Nat} : mb_ev sl i = sl (i * 2) := rfl
theorem mb_od_ap {sl : Nat → Int32} {i : Nat} : mb_od sl i = sl (i * 2 + 1) := rfl
/-- what a box or a revoker does -/
theorem mb_act (H : mb_H n nd c kd hm lk sl) {cur : Nat} (hcur : cur < c) (k3 : ¬ kd cur = 3) (harg : mb_ref c arg) (hop : op = 2 ∨ op = 3 ∨ op = 4 ∨ op = 5 ∨ op = 6) (rev ht : Nat → Int32) :
    ∃ (rev' sl' : Nat → Int32) (res : Int32), mb_V nd rev rev' ∧ mb_H n nd c kd hm lk sl' ∧ mb_ref c res ∧
      (∀ (path : Nat → Int32) (p : Nat) (par st pcs regs plen pop px py : Nat → Int32) (post : Int32 → SX → Prop), post res (nI n, nI p, nI nd, nI c, par, rev', st, pcs, regs, plen, pop, px, py, kd, hm, lk, (upd ht cur (ht cur + 1)), sl', path) → wpX_act post (nI n, nI p, nI nd, nI c, par, rev, st, pcs, regs, plen, pop, px, py, kd, hm, lk, ht, sl, path) (nI cur) op arg) ∧
      (∀ (hx he : Nat → Int32) (p : Nat) (par regs pop px py plen pcs st : Nat → Int32) (post : Int32 → SY → Prop) (x7 : Int32), (∃ m, wY_invoke_342 post m res (x7 - 1) (nI n) (nI p) (nI nd) (nI c) 0 par rev' regs pop px py plen pcs st kd hm lk (mb_ev sl') (mb_od sl') (upd ht cur (ht cur + 1)) hx he) → wY_invoke_212 post op arg (nI cur) x7 (nI n) (nI p) (nI nd) (nI c) 0 par rev regs pop px py plen pcs st kd hm lk (mb_ev sl) (mb_od sl) ht hx he) := by
  have hn : n ≤ 32 := H.2.1
  have hcn : c ≤ n := H.1
  have hnd : nd ≤ 4 := H.2.2.2.1
  have o := mb_H_ob H hcur
  rcases o.2 with ⟨kk, lkk⟩ | ⟨kk, l, l1, l2, el⟩ | ⟨kk, -⟩
  · have s0 := H.2.2.2.2.2 (cur * 2) (by omega)
    have s1 := H.2.2.2.2.2 (cur * 2 + 1) (by omega)
    rcases hop with rfl | rfl | rfl | rfl | rfl
    · refine ⟨rev, sl, sl (cur * 2), fun _ _ => rfl, H, s0, ?_, ?_⟩
      · intro path p par st pcs regs plen pop px py post K
        simp (disch := omega) only [wpX_act, nI_clamp, vp_in_nI, nI_1, nI_add, mb_lt_t, mb_lt_f, mb_le_t, mb_le_f, mb_ne, mb_lt0, mb_le0, mb_m1, mb_m1l, mb_m1g, mb_m1n, mb_x2, mb_x4, mb_x32, mb_lt_4, mb_le_4, mb_ge_4, mb_gt_4, mb_le_3, mb_gt_3, mb_le_7, mb_gt_7, mb_lt_32, mb_ge_32, mb_lt_128, mb_ge_128, mb_ge_1, mb_lt_1, mb_ge_1f, mb_lt_1t, not_true, not_false_iff, false_implies, true_implies, true_and, and_true, forall_eq, forall_const, eq_self, mb_e10, mb_e01, mb_e02, mb_e03, mb_e04, mb_e05, mb_e06, mb_e07, mb_l00, mb_l02, mb_g50, mb_g60, mb_e10, mb_e12, mb_e13, mb_e14, mb_e15, mb_e16, mb_e17, mb_l10, mb_l12, mb_g51, mb_g61, mb_e20, mb_e21, mb_e23, mb_e24, mb_e25, mb_e26, mb_e27, mb_l20, mb_l22, mb_g52, mb_g62, mb_e30, mb_e31, mb_e32, mb_e34, mb_e35, mb_e36, mb_e37, mb_l30, mb_l32, mb_g53, mb_g63, mb_e40, mb_e41, mb_e42, mb_e43, mb_e45, mb_e46, mb_e47, mb_l40, mb_l42, mb_g54, mb_g64, mb_e50, mb_e51, mb_e52, mb_e53, mb_e54, mb_e56, mb_e57, mb_l50, mb_l52, mb_g55, mb_g65, mb_e60, mb_e61, mb_e62, mb_e63, mb_e64, mb_e65, mb_e67, mb_l60, mb_l62, mb_g56, mb_g66, mb_e70, mb_e71, mb_e72, mb_e73, mb_e74, mb_e75, mb_e76, mb_l70, mb_l72, mb_g57, mb_g67, kk]
        exact K
      · intro hx he p par regs pop px py plen pcs st post x7 K
        simp (disch := omega) only [wY_invoke_212, wY_invoke_251, wY_invoke_265, wY_invoke_279, nI_clamp, vp_in_nI, nI_1, nI_add, mb_lt_t, mb_lt_f, mb_le_t, mb_le_f, mb_ne, mb_lt0, mb_le0, mb_m1, mb_m1l, mb_m1g, mb_m1n, mb_x2, mb_x4, mb_x32, mb_lt_4, mb_le_4, mb_ge_4, mb_gt_4, mb_le_3, mb_gt_3, mb_le_7, mb_gt_7, mb_lt_32, mb_ge_32, mb_lt_128, mb_ge_128, mb_ge_1, mb_lt_1, mb_ge_1f, mb_lt_1t, not_true, not_false_iff, false_implies, true_implies, true_and, and_true, forall_eq, forall_const, eq_self, mb_e10, mb_e01, mb_e02, mb_e03, mb_e04, mb_e05, mb_e06, mb_e07, mb_l00, mb_l02, mb_g50, mb_g60, mb_e10, mb_e12, mb_e13, mb_e14, mb_e15, mb_e16, mb_e17, mb_l10, mb_l12, mb_g51, mb_g61, mb_e20, mb_e21, mb_e23, mb_e24, mb_e25, mb_e26, mb_e27, mb_l20, mb_l22, mb_g52, mb_g62, mb_e30, mb_e31, mb_e32, mb_e34, mb_e35, mb_e36, mb_e37, mb_l30, mb_l32, mb_g53, mb_g63, mb_e40, mb_e41, mb_e42, mb_e43, mb_e45, mb_e46, mb_e47, mb_l40, mb_l42, mb_g54, mb_g64, mb_e50, mb_e51, mb_e52, mb_e53, mb_e54, mb_e56, mb_e57, mb_l50, mb_l52, mb_g55, mb_g65, mb_e60, mb_e61, mb_e62, mb_e63, mb_e64, mb_e65, mb_e67, mb_l60, mb_l62, mb_g56, mb_g66, mb_e70, mb_e71, mb_e72, mb_e73, mb_e74, mb_e75, mb_e76, mb_l70, mb_l72, mb_g57, mb_g67, kk, mb_ev_ap, mb_od_ap]
        exact K
    · refine ⟨rev, sl, sl (cur * 2 + 1), fun _ _ => rfl, H, s1, ?_, ?_⟩
      · intro path p par st pcs regs plen pop px py post K
        simp (disch := omega) only [wpX_act, nI_clamp, vp_in_nI, nI_1, nI_add, mb_lt_t, mb_lt_f, mb_le_t, mb_le_f, mb_ne, mb_lt0, mb_le0, mb_m1, mb_m1l, mb_m1g, mb_m1n, mb_x2, mb_x4, mb_x32, mb_lt_4, mb_le_4, mb_ge_4, mb_gt_4, mb_le_3, mb_gt_3, mb_le_7, mb_gt_7, mb_lt_32, mb_ge_32, mb_lt_128, mb_ge_128, mb_ge_1, mb_lt_1, mb_ge_1f, mb_lt_1t, not_true, not_false_iff, false_implies, true_implies, true_and, and_true, forall_eq, forall_const, eq_self, mb_e10, mb_e01, mb_e02, mb_e03, mb_e04, mb_e05, mb_e06, mb_e07, mb_l00, mb_l02, mb_g50, mb_g60, mb_e10, mb_e12, mb_e13, mb_e14, mb_e15, mb_e16, mb_e17, mb_l10, mb_l12, mb_g51, mb_g61, mb_e20, mb_e21, mb_e23, mb_e24, mb_e25, mb_e26, mb_e27, mb_l20, mb_l22, mb_g52, mb_g62, mb_e30, mb_e31, mb_e32, mb_e34, mb_e35, mb_e36, mb_e37, mb_l30, mb_l32, mb_g53, mb_g63, mb_e40, mb_e41, mb_e42, mb_e43, mb_e45, mb_e46, mb_e47, mb_l40, mb_l42, mb_g54, mb_g64, mb_e50, mb_e51, mb_e52, mb_e53, mb_e54, mb_e56, mb_e57, mb_l50, mb_l52, mb_g55, mb_g65, mb_e60, mb_e61, mb_e62, mb_e63, mb_e64, mb_e65, mb_e67, mb_l60, mb_l62, mb_g56, mb_g66, mb_e70, mb_e71, mb_e72, mb_e73, mb_e74, mb_e75, mb_e76, mb_l70, mb_l72, mb_g57, mb_g67, kk]
        exact K
      · intro hx he p par regs pop px py plen pcs st post x7 K
        simp (disch := omega) only [wY_invoke_212, wY_invoke_251, wY_invoke_265, wY_invoke_279, nI_clamp, vp_in_nI, nI_1, nI_add, mb_lt_t, mb_lt_f, mb_le_t, mb_le_f, mb_ne, mb_lt0, mb_le0, mb_m1, mb_m1l, mb_m1g, mb_m1n, mb_x2, mb_x4, mb_x32, mb_lt_4, mb_le_4, mb_ge_4, mb_gt_4, mb_le_3, mb_gt_3, mb_le_7, mb_gt_7, mb_lt_32, mb_ge_32, mb_lt_128, mb_ge_128, mb_ge_1, mb_lt_1, mb_ge_1f, mb_lt_1t, not_true, not_false_iff, false_implies, true_implies, true_and, and_true, forall_eq, forall_const, eq_self, mb_e10, mb_e01, mb_e02, mb_e03, mb_e04, mb_e05, mb_e06, mb_e07, mb_l00, mb_l02, mb_g50, mb_g60, mb_e10, mb_e12, mb_e13, mb_e14, mb_e15, mb_e16, mb_e17, mb_l10, mb_l12, mb_g51, mb_g61, mb_e20, mb_e21, mb_e23, mb_e24, mb_e25, mb_e26, mb_e27, mb_l20, mb_l22, mb_g52, mb_g62, mb_e30, mb_e31, mb_e32, mb_e34, mb_e35, mb_e36, mb_e37, mb_l30, mb_l32, mb_g53, mb_g63, mb_e40, mb_e41, mb_e42, mb_e43, mb_e45, mb_e46, mb_e47, mb_l40, mb_l42, mb_g54, mb_g64, mb_e50, mb_e51, mb_e52, mb_e53, mb_e54, mb_e56, mb_e57, mb_l50, mb_l52, mb_g55, mb_g65, mb_e60, mb_e61, mb_e62, mb_e63, mb_e64, mb_e65, mb_e67, mb_l60, mb_l62, mb_g56, mb_g66, mb_e70, mb_e71, mb_e72, mb_e73, mb_e74, mb_e75, mb_e76, mb_l70, mb_l72, mb_g57, mb_g67, kk, mb_ev_ap, mb_od_ap]
        exact K
    · refine ⟨rev, upd sl (cur * 2) arg, -1, fun _ _ => rfl, mb_set H _ harg, Or.inl rfl, ?_, ?_⟩
      · intro path p par st pcs regs plen pop px py post K
        simp (disch := omega) only [wpX_act, nI_clamp, vp_in_nI, nI_1, nI_add, mb_lt_t, mb_lt_f, mb_le_t, mb_le_f, mb_ne, mb_lt0, mb_le0, mb_m1, mb_m1l, mb_m1g, mb_m1n, mb_x2, mb_x4, mb_x32, mb_lt_4, mb_le_4, mb_ge_4, mb_gt_4, mb_le_3, mb_gt_3, mb_le_7, mb_gt_7, mb_lt_32, mb_ge_32, mb_lt_128, mb_ge_128, mb_ge_1, mb_lt_1, mb_ge_1f, mb_lt_1t, not_true, not_false_iff, false_implies, true_implies, true_and, and_true, forall_eq, forall_const, eq_self, mb_e10, mb_e01, mb_e02, mb_e03, mb_e04, mb_e05, mb_e06, mb_e07, mb_l00, mb_l02, mb_g50, mb_g60, mb_e10, mb_e12, mb_e13, mb_e14, mb_e15, mb_e16, mb_e17, mb_l10, mb_l12, mb_g51, mb_g61, mb_e20, mb_e21, mb_e23, mb_e24, mb_e25, mb_e26, mb_e27, mb_l20, mb_l22, mb_g52, mb_g62, mb_e30, mb_e31, mb_e32, mb_e34, mb_e35, mb_e36, mb_e37, mb_l30, mb_l32, mb_g53, mb_g63, mb_e40, mb_e41, mb_e42, mb_e43, mb_e45, mb_e46, mb_e47, mb_l40, mb_l42, mb_g54, mb_g64, mb_e50, mb_e51, mb_e52, mb_e53, mb_e54, mb_e56, mb_e57, mb_l50, mb_l52, mb_g55, mb_g65, mb_e60, mb_e61, mb_e62, mb_e63, mb_e64, mb_e65, mb_e67, mb_l60, mb_l62, mb_g56, mb_g66, mb_e70, mb_e71, mb_e72, mb_e73, mb_e74, mb_e75, mb_e76, mb_l70, mb_l72, mb_g57, mb_g67, kk]
        exact K
      · intro hx he p par regs pop px py plen pcs st post x7 K
        simp only [mb_ev_e, mb_od_e] at K
        simp (disch := omega) only [wY_invoke_212, wY_invoke_251, wY_invoke_265, wY_invoke_279, nI_clamp, vp_in_nI, nI_1, nI_add, mb_lt_t, mb_lt_f, mb_le_t, mb_le_f, mb_ne, mb_lt0, mb_le0, mb_m1, mb_m1l, mb_m1g, mb_m1n, mb_x2, mb_x4, mb_x32, mb_lt_4, mb_le_4, mb_ge_4, mb_gt_4, mb_le_3, mb_gt_3, mb_le_7, mb_gt_7, mb_lt_32, mb_ge_32, mb_lt_128, mb_ge_128, mb_ge_1, mb_lt_1, mb_ge_1f, mb_lt_1t, not_true, not_false_iff, false_implies, true_implies, true_and, and_true, forall_eq, forall_const, eq_self, mb_e10, mb_e01, mb_e02, mb_e03, mb_e04, mb_e05, mb_e06, mb_e07, mb_l00, mb_l02, mb_g50, mb_g60, mb_e10, mb_e12, mb_e13, mb_e14, mb_e15, mb_e16, mb_e17, mb_l10, mb_l12, mb_g51, mb_g61, mb_e20, mb_e21, mb_e23, mb_e24, mb_e25, mb_e26, mb_e27, mb_l20, mb_l22, mb_g52, mb_g62, mb_e30, mb_e31, mb_e32, mb_e34, mb_e35, mb_e36, mb_e37, mb_l30, mb_l32, mb_g53, mb_g63, mb_e40, mb_e41, mb_e42, mb_e43, mb_e45, mb_e46, mb_e47, mb_l40, mb_l42, mb_g54, mb_g64, mb_e50, mb_e51, mb_e52, mb_e53, mb_e54, mb_e56, mb_e57, mb_l50, mb_l52, mb_g55, mb_g65, mb_e60, mb_e61, mb_e62, mb_e63, mb_e64, mb_e65, mb_e67, mb_l60, mb_l62, mb_g56, mb_g66, mb_e70, mb_e71, mb_e72, mb_e73, mb_e74, mb_e75, mb_e76, mb_l70, mb_l72, mb_g57, mb_g67, kk, mb_ev_ap, mb_od_ap]
        exact K
    · refine ⟨rev, upd sl (cur * 2 + 1) arg, -1, fun _ _ => rfl, mb_set H _ harg, Or.inl rfl, ?_, ?_⟩
      · intro path p par st pcs regs plen pop px py post K
        simp (disch := omega) only [wpX_act, nI_clamp, vp_in_nI, nI_1, nI_add, mb_lt_t, mb_lt_f, mb_le_t, mb_le_f, mb_ne, mb_lt0, mb_le0, mb_m1, mb_m1l, mb_m1g, mb_m1n, mb_x2, mb_x4, mb_x32, mb_lt_4, mb_le_4, mb_ge_4, mb_gt_4, mb_le_3, mb_gt_3, mb_le_7, mb_gt_7, mb_lt_32, mb_ge_32, mb_lt_128, mb_ge_128, mb_ge_1, mb_lt_1, mb_ge_1f, mb_lt_1t, not_true, not_false_iff, false_implies, true_implies, true_and, and_true, forall_eq, forall_const, eq_self, mb_e10, mb_e01, mb_e02, mb_e03, mb_e04, mb_e05, mb_e06, mb_e07, mb_l00, mb_l02, mb_g50, mb_g60, mb_e10, mb_e12, mb_e13, mb_e14, mb_e15, mb_e16, mb_e17, mb_l10, mb_l12, mb_g51, mb_g61, mb_e20, mb_e21, mb_e23, mb_e24, mb_e25, mb_e26, mb_e27, mb_l20, mb_l22, mb_g52, mb_g62, mb_e30, mb_e31, mb_e32, mb_e34, mb_e35, mb_e36, mb_e37, mb_l30, mb_l32, mb_g53, mb_g63, mb_e40, mb_e41, mb_e42, mb_e43, mb_e45, mb_e46, mb_e47, mb_l40, mb_l42, mb_g54, mb_g64, mb_e50, mb_e51, mb_e52, mb_e53, mb_e54, mb_e56, mb_e57, mb_l50, mb_l52, mb_g55, mb_g65, mb_e60, mb_e61, mb_e62, mb_e63, mb_e64, mb_e65, mb_e67, mb_l60, mb_l62, mb_g56, mb_g66, mb_e70, mb_e71, mb_e72, mb_e73, mb_e74, mb_e75, mb_e76, mb_l70, mb_l72, mb_g57, mb_g67, kk]
        exact K
      · intro hx he p par regs pop px py plen pcs st post x7 K
        simp only [mb_ev_o, mb_od_o] at K
        simp (disch := omega) only [wY_invoke_212, wY_invoke_251, wY_invoke_265, wY_invoke_279, nI_clamp, vp_in_nI, nI_1, nI_add, mb_lt_t, mb_lt_f, mb_le_t, mb_le_f, mb_ne, mb_lt0, mb_le0, mb_m1, mb_m1l, mb_m1g, mb_m1n, mb_x2, mb_x4, mb_x32, mb_lt_4, mb_le_4, mb_ge_4, mb_gt_4, mb_le_3, mb_gt_3, mb_le_7, mb_gt_7, mb_lt_32, mb_ge_32, mb_lt_128, mb_ge_128, mb_ge_1, mb_lt_1, mb_ge_1f, mb_lt_1t, not_true, not_false_iff, false_implies, true_implies, true_and, and_true, forall_eq, forall_const, eq_self, mb_e10, mb_e01, mb_e02, mb_e03, mb_e04, mb_e05, mb_e06, mb_e07, mb_l00, mb_l02, mb_g50, mb_g60, mb_e10, mb_e12, mb_e13, mb_e14, mb_e15, mb_e16, mb_e17, mb_l10, mb_l12, mb_g51, mb_g61, mb_e20, mb_e21, mb_e23, mb_e24, mb_e25, mb_e26, mb_e27, mb_l20, mb_l22, mb_g52, mb_g62, mb_e30, mb_e31, mb_e32, mb_e34, mb_e35, mb_e36, mb_e37, mb_l30, mb_l32, mb_g53, mb_g63, mb_e40, mb_e41, mb_e42, mb_e43, mb_e45, mb_e46, mb_e47, mb_l40, mb_l42, mb_g54, mb_g64, mb_e50, mb_e51, mb_e52, mb_e53, mb_e54, mb_e56, mb_e57, mb_l50, mb_l52, mb_g55, mb_g65, mb_e60, mb_e61, mb_e62, mb_e63, mb_e64, mb_e65, mb_e67, mb_l60, mb_l62, mb_g56, mb_g66, mb_e70, mb_e71, mb_e72, mb_e73, mb_e74, mb_e75, mb_e76, mb_l70, mb_l72, mb_g57, mb_g67, kk, mb_ev_ap, mb_od_ap]
        exact K
    · refine ⟨rev, sl, -1, fun _ _ => rfl, H, Or.inl rfl, ?_, ?_⟩
      · intro path p par st pcs regs plen pop px py post K
        simp (disch := omega) only [wpX_act, nI_clamp, vp_in_nI, nI_1, nI_add, mb_lt_t, mb_lt_f, mb_le_t, mb_le_f, mb_ne, mb_lt0, mb_le0, mb_m1, mb_m1l, mb_m1g, mb_m1n, mb_x2, mb_x4, mb_x32, mb_lt_4, mb_le_4, mb_ge_4, mb_gt_4, mb_le_3, mb_gt_3, mb_le_7, mb_gt_7, mb_lt_32, mb_ge_32, mb_lt_128, mb_ge_128, mb_ge_1, mb_lt_1, mb_ge_1f, mb_lt_1t, not_true, not_false_iff, false_implies, true_implies, true_and, and_true, forall_eq, forall_const, eq_self, mb_e10, mb_e01, mb_e02, mb_e03, mb_e04, mb_e05, mb_e06, mb_e07, mb_l00, mb_l02, mb_g50, mb_g60, mb_e10, mb_e12, mb_e13, mb_e14, mb_e15, mb_e16, mb_e17, mb_l10, mb_l12, mb_g51, mb_g61, mb_e20, mb_e21, mb_e23, mb_e24, mb_e25, mb_e26, mb_e27, mb_l20, mb_l22, mb_g52, mb_g62, mb_e30, mb_e31, mb_e32, mb_e34, mb_e35, mb_e36, mb_e37, mb_l30, mb_l32, mb_g53, mb_g63, mb_e40, mb_e41, mb_e42, mb_e43, mb_e45, mb_e46, mb_e47, mb_l40, mb_l42, mb_g54, mb_g64, mb_e50, mb_e51, mb_e52, mb_e53, mb_e54, mb_e56, mb_e57, mb_l50, mb_l52, mb_g55, mb_g65, mb_e60, mb_e61, mb_e62, mb_e63, mb_e64, mb_e65, mb_e67, mb_l60, mb_l62, mb_g56, mb_g66, mb_e70, mb_e71, mb_e72, mb_e73, mb_e74, mb_e75, mb_e76, mb_l70, mb_l72, mb_g57, mb_g67, kk]
        exact K
      · intro hx he p par regs pop px py plen pcs st post x7 K
        simp (disch := omega) only [wY_invoke_212, wY_invoke_251, wY_invoke_265, wY_invoke_279, nI_clamp, vp_in_nI, nI_1, nI_add, mb_lt_t, mb_lt_f, mb_le_t, mb_le_f, mb_ne, mb_lt0, mb_le0, mb_m1, mb_m1l, mb_m1g, mb_m1n, mb_x2, mb_x4, mb_x32, mb_lt_4, mb_le_4, mb_ge_4, mb_gt_4, mb_le_3, mb_gt_3, mb_le_7, mb_gt_7, mb_lt_32, mb_ge_32, mb_lt_128, mb_ge_128, mb_ge_1, mb_lt_1, mb_ge_1f, mb_lt_1t, not_true, not_false_iff, false_implies, true_implies, true_and, and_true, forall_eq, forall_const, eq_self, mb_e10, mb_e01, mb_e02, mb_e03, mb_e04, mb_e05, mb_e06, mb_e07, mb_l00, mb_l02, mb_g50, mb_g60, mb_e10, mb_e12, mb_e13, mb_e14, mb_e15, mb_e16, mb_e17, mb_l10, mb_l12, mb_g51, mb_g61, mb_e20, mb_e21, mb_e23, mb_e24, mb_e25, mb_e26, mb_e27, mb_l20, mb_l22, mb_g52, mb_g62, mb_e30, mb_e31, mb_e32, mb_e34, mb_e35, mb_e36, mb_e37, mb_l30, mb_l32, mb_g53, mb_g63, mb_e40, mb_e41, mb_e42, mb_e43, mb_e45, mb_e46, mb_e47, mb_l40, mb_l42, mb_g54, mb_g64, mb_e50, mb_e51, mb_e52, mb_e53, mb_e54, mb_e56, mb_e57, mb_l50, mb_l52, mb_g55, mb_g65, mb_e60, mb_e61, mb_e62, mb_e63, mb_e64, mb_e65, mb_e67, mb_l60, mb_l62, mb_g56, mb_g66, mb_e70, mb_e71, mb_e72, mb_e73, mb_e74, mb_e75, mb_e76, mb_l70, mb_l72, mb_g57, mb_g67, kk, mb_ev_ap, mb_od_ap]
        exact K
  · refine ⟨upd rev l (vp_nar .boolean 1), sl, -1, fun i hi => pk_un (by omega), H, Or.inl rfl, ?_, ?_⟩
    · intro path p par st pcs regs plen pop px py post K
      simp (disch := omega) only [wpX_act, nI_clamp, vp_in_nI, nI_1, nI_add, mb_lt_t, mb_lt_f, mb_le_t, mb_le_f, mb_ne, mb_lt0, mb_le0, mb_m1, mb_m1l, mb_m1g, mb_m1n, mb_x2, mb_x4, mb_x32, mb_lt_4, mb_le_4, mb_ge_4, mb_gt_4, mb_le_3, mb_gt_3, mb_le_7, mb_gt_7, mb_lt_32, mb_ge_32, mb_lt_128, mb_ge_128, mb_ge_1, mb_lt_1, mb_ge_1f, mb_lt_1t, not_true, not_false_iff, false_implies, true_implies, true_and, and_true, forall_eq, forall_const, eq_self, mb_e10, mb_e01, mb_e02, mb_e03, mb_e04, mb_e05, mb_e06, mb_e07, mb_l00, mb_l02, mb_g50, mb_g60, mb_e10, mb_e12, mb_e13, mb_e14, mb_e15, mb_e16, mb_e17, mb_l10, mb_l12, mb_g51, mb_g61, mb_e20, mb_e21, mb_e23, mb_e24, mb_e25, mb_e26, mb_e27, mb_l20, mb_l22, mb_g52, mb_g62, mb_e30, mb_e31, mb_e32, mb_e34, mb_e35, mb_e36, mb_e37, mb_l30, mb_l32, mb_g53, mb_g63, mb_e40, mb_e41, mb_e42, mb_e43, mb_e45, mb_e46, mb_e47, mb_l40, mb_l42, mb_g54, mb_g64, mb_e50, mb_e51, mb_e52, mb_e53, mb_e54, mb_e56, mb_e57, mb_l50, mb_l52, mb_g55, mb_g65, mb_e60, mb_e61, mb_e62, mb_e63, mb_e64, mb_e65, mb_e67, mb_l60, mb_l62, mb_g56, mb_g66, mb_e70, mb_e71, mb_e72, mb_e73, mb_e74, mb_e75, mb_e76, mb_l70, mb_l72, mb_g57, mb_g67, kk, el]
      exact K
    · intro hx he p par regs pop px py plen pcs st post x7 K
      simp (disch := omega) only [wY_invoke_212, nI_clamp, vp_in_nI, nI_1, nI_add, mb_lt_t, mb_lt_f, mb_le_t, mb_le_f, mb_ne, mb_lt0, mb_le0, mb_m1, mb_m1l, mb_m1g, mb_m1n, mb_x2, mb_x4, mb_x32, mb_lt_4, mb_le_4, mb_ge_4, mb_gt_4, mb_le_3, mb_gt_3, mb_le_7, mb_gt_7, mb_lt_32, mb_ge_32, mb_lt_128, mb_ge_128, mb_ge_1, mb_lt_1, mb_ge_1f, mb_lt_1t, not_true, not_false_iff, false_implies, true_implies, true_and, and_true, forall_eq, forall_const, eq_self, mb_e10, mb_e01, mb_e02, mb_e03, mb_e04, mb_e05, mb_e06, mb_e07, mb_l00, mb_l02, mb_g50, mb_g60, mb_e10, mb_e12, mb_e13, mb_e14, mb_e15, mb_e16, mb_e17, mb_l10, mb_l12, mb_g51, mb_g61, mb_e20, mb_e21, mb_e23, mb_e24, mb_e25, mb_e26, mb_e27, mb_l20, mb_l22, mb_g52, mb_g62, mb_e30, mb_e31, mb_e32, mb_e34, mb_e35, mb_e36, mb_e37, mb_l30, mb_l32, mb_g53, mb_g63, mb_e40, mb_e41, mb_e42, mb_e43, mb_e45, mb_e46, mb_e47, mb_l40, mb_l42, mb_g54, mb_g64, mb_e50, mb_e51, mb_e52, mb_e53, mb_e54, mb_e56, mb_e57, mb_l50, mb_l52, mb_g55, mb_g65, mb_e60, mb_e61, mb_e62, mb_e63, mb_e64, mb_e65, mb_e67, mb_l60, mb_l62, mb_g56, mb_g66, mb_e70, mb_e71, mb_e72, mb_e73, mb_e74, mb_e75, mb_e76, mb_l70, mb_l72, mb_g57, mb_g67, kk, el]
      exact K
  · exact absurd kk k3
theorem mx_igo {post : Int32 → SX → Prop} {m cur t h e k x : Nat} (hcur : cur < 32) (h1 : t < 32) (h2 : h < 4) (h3 : e < 4) (hk : k < 32)
    (k3 : kd cur = 3) (et : lk cur = nI t) (ee : hm t = nI e) (eh : hm cur = nI h) (rv : rev (mb_mx h e) = 0) (ex : path k = nI x)
    (cX : ∀ post' : Int32 → SX → Prop, post' aX (nI n, nI p, nI nd, nI c1, par, rev, st, pcs, regs, plen, pop, px, py, kd1, hm1, lk1, ht1, sl1, path) → wpX_carry post' (nI n, nI p, nI nd, nI c, par, rev, st, pcs, regs, plen, pop, px, py, kd, hm, lk, (upd ht cur (ht cur + 1)), sl, path) arg (nI x) (nI e))
    (nf : -1 ≤ aX) (K : wX_invoke_25 post op m (nI t) aX (nI (k + 1)) (nI n) (nI p) (nI nd) (nI c1) par rev st pcs regs plen pop px py kd1 hm1 lk1 ht1 sl1 (upd path (k + 1) (nI e))) : wX_invoke_25 post op (m + 1) (nI cur) arg (nI k) (nI n) (nI p) (nI nd) (nI c) par rev st pcs regs plen pop px py kd hm lk ht sl path := by
  have hmx := mb_mx_lt (d := 4) h2 h3
  simp (disch := omega) only [wX_invoke_25, mx_mbE, nI_clamp, vp_in_nI, nI_1, nI_add, mb_lt_t, mb_lt_f, mb_le_t, mb_le_f, mb_ne, mb_lt0, mb_le0, mb_m1, mb_m1l, mb_m1g, mb_m1n, mb_x2, mb_x4, mb_x32, mb_lt_4, mb_le_4, mb_ge_4, mb_gt_4, mb_le_3, mb_gt_3, mb_le_7, mb_gt_7, mb_lt_32, mb_ge_32, mb_lt_128, mb_ge_128, mb_ge_1, mb_lt_1, mb_ge_1f, mb_lt_1t, not_true, not_false_iff, false_implies, true_implies, true_and, and_true, forall_eq, forall_const, eq_self, mb_e10, k3, et, ee, eh, rv, ex]
  refine cX _ ?_
  simp (disch := omega) only [wpX_isFault, nI_clamp, vp_in_nI, nI_1, nI_add, mb_lt_t, mb_lt_f, mb_le_t, mb_le_f, mb_ne, mb_lt0, mb_le0, mb_m1, mb_m1l, mb_m1g, mb_m1n, mb_x2, mb_x4, mb_x32, mb_lt_4, mb_le_4, mb_ge_4, mb_gt_4, mb_le_3, mb_gt_3, mb_le_7, mb_gt_7, mb_lt_32, mb_ge_32, mb_lt_128, mb_ge_128, mb_ge_1, mb_lt_1, mb_ge_1f, mb_lt_1t, not_true, not_false_iff, false_implies, true_implies, true_and, and_true, forall_eq, forall_const, eq_self, mb_e10, nf]
  exact K
theorem mx_ifl {post : Int32 → SX → Prop} {m cur t h e k x : Nat} (hcur : cur < 32) (h1 : t < 32) (h2 : h < 4) (h3 : e < 4) (hk : k < 32)
    (k3 : kd cur = 3) (et : lk cur = nI t) (ee : hm t = nI e) (eh : hm cur = nI h) (rv : rev (mb_mx h e) = 0) (ex : path k = nI x)
    (cX : ∀ post' : Int32 → SX → Prop, post' (-4) (nI n, nI p, nI nd, nI c1, par, rev, st, pcs, regs, plen, pop, px, py, kd1, hm1, lk1, ht1, sl1, path) → wpX_carry post' (nI n, nI p, nI nd, nI c, par, rev, st, pcs, regs, plen, pop, px, py, kd, hm, lk, (upd ht cur (ht cur + 1)), sl, path) arg (nI x) (nI e))
    (K : post (-4) (nI n, nI p, nI nd, nI c1, par, rev, st, pcs, regs, plen, pop, px, py, kd1, hm1, lk1, ht1, sl1, path)) : wX_invoke_25 post op (m + 1) (nI cur) arg (nI k) (nI n) (nI p) (nI nd) (nI c) par rev st pcs regs plen pop px py kd hm lk ht sl path := by
  have hmx := mb_mx_lt (d := 4) h2 h3
  have nf : ¬ ((-1 : Int32) ≤ -4) := by decide
  simp (disch := omega) only [wX_invoke_25, mx_mbE, nI_clamp, vp_in_nI, nI_1, nI_add, mb_lt_t, mb_lt_f, mb_le_t, mb_le_f, mb_ne, mb_lt0, mb_le0, mb_m1, mb_m1l, mb_m1g, mb_m1n, mb_x2, mb_x4, mb_x32, mb_lt_4, mb_le_4, mb_ge_4, mb_gt_4, mb_le_3, mb_gt_3, mb_le_7, mb_gt_7, mb_lt_32, mb_ge_32, mb_lt_128, mb_ge_128, mb_ge_1, mb_lt_1, mb_ge_1f, mb_lt_1t, not_true, not_false_iff, false_implies, true_implies, true_and, and_true, forall_eq, forall_const, eq_self, mb_e10, k3, et, ee, eh, rv, ex]
  refine cX _ ?_
  simp (disch := omega) only [wpX_isFault, nI_clamp, vp_in_nI, nI_1, nI_add, mb_lt_t, mb_lt_f, mb_le_t, mb_le_f, mb_ne, mb_lt0, mb_le0, mb_m1, mb_m1l, mb_m1g, mb_m1n, mb_x2, mb_x4, mb_x32, mb_lt_4, mb_le_4, mb_ge_4, mb_gt_4, mb_le_3, mb_gt_3, mb_le_7, mb_gt_7, mb_lt_32, mb_ge_32, mb_lt_128, mb_ge_128, mb_ge_1, mb_lt_1, mb_ge_1f, mb_lt_1t, not_true, not_false_iff, false_implies, true_implies, true_and, and_true, forall_eq, forall_const, eq_self, mb_e10, nf]
  exact K
theorem mx_irv {post : Int32 → SX → Prop} {m cur t h e k : Nat} (hcur : cur < 32) (h1 : t < 32) (h2 : h < 4) (h3 : e < 4) (hk : k < 32)
    (k3 : kd cur = 3) (et : lk cur = nI t) (ee : hm t = nI e) (eh : hm cur = nI h) (rv : ¬ rev (mb_mx h e) = 0)
    (K : post (-3) (nI n, nI p, nI nd, nI c, par, rev, st, pcs, regs, plen, pop, px, py, kd, hm, lk, ht, sl, path)) : wX_invoke_25 post op (m + 1) (nI cur) arg (nI k) (nI n) (nI p) (nI nd) (nI c) par rev st pcs regs plen pop px py kd hm lk ht sl path := by
  have hmx := mb_mx_lt (d := 4) h2 h3
  simp (disch := omega) only [wX_invoke_25, mx_mbE, nI_clamp, vp_in_nI, nI_1, nI_add, mb_lt_t, mb_lt_f, mb_le_t, mb_le_f, mb_ne, mb_lt0, mb_le0, mb_m1, mb_m1l, mb_m1g, mb_m1n, mb_x2, mb_x4, mb_x32, mb_lt_4, mb_le_4, mb_ge_4, mb_gt_4, mb_le_3, mb_gt_3, mb_le_7, mb_gt_7, mb_lt_32, mb_ge_32, mb_lt_128, mb_ge_128, mb_ge_1, mb_lt_1, mb_ge_1f, mb_lt_1t, not_true, not_false_iff, false_implies, true_implies, true_and, and_true, forall_eq, forall_const, eq_self, mb_e10, k3, et, ee, eh, rv]
  exact K
theorem mx_iac {post : Int32 → SX → Prop} {m cur k : Nat} (hcur : cur < 32) (hk : k < 32) (k3 : ¬ kd cur = 3)
    (K : wX_invoke_142 post op (nI cur) arg (nI k) (nI n) (nI p) (nI nd) (nI c) par rev st pcs regs plen pop px py kd hm lk ht sl path) : wX_invoke_25 post op (m + 1) (nI cur) arg (nI k) (nI n) (nI p) (nI nd) (nI c) par rev st pcs regs plen pop px py kd hm lk ht sl path := by
  simp (disch := omega) only [wX_invoke_25, nI_clamp, vp_in_nI, nI_1, nI_add, mb_lt_t, mb_lt_f, mb_le_t, mb_le_f, mb_ne, mb_lt0, mb_le0, mb_m1, mb_m1l, mb_m1g, mb_m1n, mb_x2, mb_x4, mb_x32, mb_lt_4, mb_le_4, mb_ge_4, mb_gt_4, mb_le_3, mb_gt_3, mb_le_7, mb_gt_7, mb_lt_32, mb_ge_32, mb_lt_128, mb_ge_128, mb_ge_1, mb_lt_1, mb_ge_1f, mb_lt_1t, not_true, not_false_iff, false_implies, true_implies, true_and, and_true, forall_eq, forall_const, eq_self, mb_e10, k3]
  exact K
theorem my_i113 {post : Int32 → SY → Prop} {J : Int32 → Int32 → Int32 → Int32 → Int32 → Int32 → Int32 → Int32 → Int32 → (Nat → Int32) → (Nat → Int32) → (Nat → Int32) → (Nat → Int32) → (Nat → Int32) → (Nat → Int32) → (Nat → Int32) → (Nat → Int32) → (Nat → Int32) → (Nat → Int32) → (Nat → Int32) → (Nat → Int32) → (Nat → Int32) → (Nat → Int32) → (Nat → Int32) → (Nat → Int32) → (Nat → Int32) → Prop} {x5 x6 x7 x8 x9 : Int32} {z : Nat} (hz : z < 4) (rv : rev z = 0)
    (K : wY_invoke_143 post J op arg x5 x6 x7 x8 x9 (nI n) (nI p) (nI nd) (nI c) flt par rev regs pop px py plen pcs st kd hm lk (mb_ev sl) (mb_od sl) ht hx he) : wY_invoke_113 post J op arg x5 x6 x7 x8 x9 (nI z) (nI n) (nI p) (nI nd) (nI c) flt par rev regs pop px py plen pcs st kd hm lk (mb_ev sl) (mb_od sl) ht hx he := by
  simp (disch := omega) only [wY_invoke_113, nI_clamp, vp_in_nI, nI_1, nI_add, mb_lt_t, mb_lt_f, mb_le_t, mb_le_f, mb_ne, mb_lt0, mb_le0, mb_m1, mb_m1l, mb_m1g, mb_m1n, mb_x2, mb_x4, mb_x32, mb_lt_4, mb_le_4, mb_ge_4, mb_gt_4, mb_le_3, mb_gt_3, mb_le_7, mb_gt_7, mb_lt_32, mb_ge_32, mb_lt_128, mb_ge_128, mb_ge_1, mb_lt_1, mb_ge_1f, mb_lt_1t, not_true, not_false_iff, false_implies, true_implies, true_and, and_true, forall_eq, forall_const, eq_self, mb_e10, rv]
  exact K
theorem my_i113r {post : Int32 → SY → Prop} {J : Int32 → Int32 → Int32 → Int32 → Int32 → Int32 → Int32 → Int32 → Int32 → (Nat → Int32) → (Nat → Int32) → (Nat → Int32) → (Nat → Int32) → (Nat → Int32) → (Nat → Int32) → (Nat → Int32) → (Nat → Int32) → (Nat → Int32) → (Nat → Int32) → (Nat → Int32) → (Nat → Int32) → (Nat → Int32) → (Nat → Int32) → (Nat → Int32) → (Nat → Int32) → (Nat → Int32) → Prop} {x5 x6 x7 x8 x9 : Int32} {z : Nat} (hz : z < 4) (rv : ¬ rev z = 0)
    (K : post (-1) (nI n, nI p, nI nd, nI c, 2, par, rev, regs, pop, px, py, plen, pcs, st, kd, hm, lk, mb_ev sl, mb_od sl, ht, hx, he)) : wY_invoke_113 post J op arg x5 x6 x7 x8 x9 (nI z) (nI n) (nI p) (nI nd) (nI c) flt par rev regs pop px py plen pcs st kd hm lk (mb_ev sl) (mb_od sl) ht hx he := by
  simp (disch := omega) only [wY_invoke_113, nI_clamp, vp_in_nI, nI_1, nI_add, mb_lt_t, mb_lt_f, mb_le_t, mb_le_f, mb_ne, mb_lt0, mb_le0, mb_m1, mb_m1l, mb_m1g, mb_m1n, mb_x2, mb_x4, mb_x32, mb_lt_4, mb_le_4, mb_ge_4, mb_gt_4, mb_le_3, mb_gt_3, mb_le_7, mb_gt_7, mb_lt_32, mb_ge_32, mb_lt_128, mb_ge_128, mb_ge_1, mb_lt_1, mb_ge_1f, mb_lt_1t, not_true, not_false_iff, false_implies, true_implies, true_and, and_true, forall_eq, forall_const, eq_self, mb_e10, rv]
  exact K
theorem my_i33 {post : Int32 → SY → Prop} {m cur t h e k : Nat} {x6 : Int32} (hcur : cur < 32) (h1 : t < c) (hc : c ≤ 32) (h2 : h < 4) (h3 : e < 4) (hk : k < 32)
    (k3 : kd cur = 3) (et : lk cur = nI t) (ee : hm t = nI e) (eh : hm cur = nI h)
    (K : wY_invoke_113 post (wY_invoke_33 post op m) op arg (nI cur) x6 (nI k) (nI t) (nI e) (nI (mb_mx h e)) (nI n) (nI p) (nI nd) (nI c) flt par rev regs pop px py plen pcs st kd hm lk (mb_ev sl) (mb_od sl) ht hx he) : wY_invoke_33 post op (m + 1) arg (nI cur) x6 (nI k) (nI n) (nI p) (nI nd) (nI c) flt par rev regs pop px py plen pcs st kd hm lk (mb_ev sl) (mb_od sl) ht hx he := by
  by_cases z : h ≤ e
  · have emx : mb_mx h e = e := if_neg (by omega)
    rw [emx] at K
    simp (disch := omega) only [wY_invoke_33, nI_clamp, vp_in_nI, nI_1, nI_add, mb_lt_t, mb_lt_f, mb_le_t, mb_le_f, mb_ne, mb_lt0, mb_le0, mb_m1, mb_m1l, mb_m1g, mb_m1n, mb_x2, mb_x4, mb_x32, mb_lt_4, mb_le_4, mb_ge_4, mb_gt_4, mb_le_3, mb_gt_3, mb_le_7, mb_gt_7, mb_lt_32, mb_ge_32, mb_lt_128, mb_ge_128, mb_ge_1, mb_lt_1, mb_ge_1f, mb_lt_1t, not_true, not_false_iff, false_implies, true_implies, true_and, and_true, forall_eq, forall_const, eq_self, mb_e10, k3, et, ee, eh]
    exact K
  · have emx : mb_mx h e = h := if_pos (by omega)
    rw [emx] at K
    simp (disch := omega) only [wY_invoke_33, nI_clamp, vp_in_nI, nI_1, nI_add, mb_lt_t, mb_lt_f, mb_le_t, mb_le_f, mb_ne, mb_lt0, mb_le0, mb_m1, mb_m1l, mb_m1g, mb_m1n, mb_x2, mb_x4, mb_x32, mb_lt_4, mb_le_4, mb_ge_4, mb_gt_4, mb_le_3, mb_gt_3, mb_le_7, mb_gt_7, mb_lt_32, mb_ge_32, mb_lt_128, mb_ge_128, mb_ge_1, mb_lt_1, mb_ge_1f, mb_lt_1t, not_true, not_false_iff, false_implies, true_implies, true_and, and_true, forall_eq, forall_const, eq_self, mb_e10, k3, et, ee, eh]
    exact K
theorem my_i143 {post : Int32 → SY → Prop} {J : Int32 → Int32 → Int32 → Int32 → Int32 → Int32 → Int32 → Int32 → Int32 → (Nat → Int32) → (Nat → Int32) → (Nat → Int32) → (Nat → Int32) → (Nat → Int32) → (Nat → Int32) → (Nat → Int32) → (Nat → Int32) → (Nat → Int32) → (Nat → Int32) → (Nat → Int32) → (Nat → Int32) → (Nat → Int32) → (Nat → Int32) → (Nat → Int32) → (Nat → Int32) → (Nat → Int32) → Prop} {x6 x8 x9 : Int32} {cur k : Nat} (hcur : cur < 32) (hk : k < 32)
    (cY : ∀ post' : Int32 → SY → Prop, post' aY (nI n, nI p, nI nd, nI c1, flt, par, rev, regs, pop, px, py, plen, pcs, st, kd1, hm1, lk1, (mb_ev sl1), (mb_od sl1), ht1, hx, he) → wpY_carry post' (nI n, nI p, nI nd, nI c, flt, par, rev, regs, pop, px, py, plen, pcs, st, kd, hm, lk, mb_ev sl, mb_od sl, (upd ht cur (ht cur + 1)), hx, he) arg x6 x9) (nf : ¬ aY = -2)
    (K : J aY x8 x9 (nI (k + 1)) (nI n) (nI p) (nI nd) (nI c1) flt par rev regs pop px py plen pcs st kd1 hm1 lk1 (mb_ev sl1) (mb_od sl1) ht1 (upd hx k x6) (upd he k x9)) : wY_invoke_143 post J op arg (nI cur) x6 (nI k) x8 x9 (nI n) (nI p) (nI nd) (nI c) flt par rev regs pop px py plen pcs st kd hm lk (mb_ev sl) (mb_od sl) ht hx he := by
  simp (disch := omega) only [wY_invoke_143, nI_clamp, vp_in_nI, nI_1, nI_add, mb_lt_t, mb_lt_f, mb_le_t, mb_le_f, mb_ne, mb_lt0, mb_le0, mb_m1, mb_m1l, mb_m1g, mb_m1n, mb_x2, mb_x4, mb_x32, mb_lt_4, mb_le_4, mb_ge_4, mb_gt_4, mb_le_3, mb_gt_3, mb_le_7, mb_gt_7, mb_lt_32, mb_ge_32, mb_lt_128, mb_ge_128, mb_ge_1, mb_lt_1, mb_ge_1f, mb_lt_1t, not_true, not_false_iff, false_implies, true_implies, true_and, and_true, forall_eq, forall_const, eq_self, mb_e10]
  refine cY _ ?_
  simp (disch := omega) only [nI_clamp, vp_in_nI, nI_1, nI_add, mb_lt_t, mb_lt_f, mb_le_t, mb_le_f, mb_ne, mb_lt0, mb_le0, mb_m1, mb_m1l, mb_m1g, mb_m1n, mb_x2, mb_x4, mb_x32, mb_lt_4, mb_le_4, mb_ge_4, mb_gt_4, mb_le_3, mb_gt_3, mb_le_7, mb_gt_7, mb_lt_32, mb_ge_32, mb_lt_128, mb_ge_128, mb_ge_1, mb_lt_1, mb_ge_1f, mb_lt_1t, not_true, not_false_iff, false_implies, true_implies, true_and, and_true, forall_eq, forall_const, eq_self, mb_e10, nf]
  exact K
theorem my_i143f {post : Int32 → SY → Prop} {J : Int32 → Int32 → Int32 → Int32 → Int32 → Int32 → Int32 → Int32 → Int32 → (Nat → Int32) → (Nat → Int32) → (Nat → Int32) → (Nat → Int32) → (Nat → Int32) → (Nat → Int32) → (Nat → Int32) → (Nat → Int32) → (Nat → Int32) → (Nat → Int32) → (Nat → Int32) → (Nat → Int32) → (Nat → Int32) → (Nat → Int32) → (Nat → Int32) → (Nat → Int32) → (Nat → Int32) → Prop} {x6 x8 x9 : Int32} {cur k : Nat} (hcur : cur < 32) (hk : k < 32)
    (cY : ∀ post' : Int32 → SY → Prop, post' (-2) (nI n, nI p, nI nd, nI c1, flt, par, rev, regs, pop, px, py, plen, pcs, st, kd1, hm1, lk1, (mb_ev sl1), (mb_od sl1), ht1, hx, he) → wpY_carry post' (nI n, nI p, nI nd, nI c, flt, par, rev, regs, pop, px, py, plen, pcs, st, kd, hm, lk, mb_ev sl, mb_od sl, (upd ht cur (ht cur + 1)), hx, he) arg x6 x9)
    (K : post (-1) (nI n, nI p, nI nd, nI c1, 3, par, rev, regs, pop, px, py, plen, pcs, st, kd1, hm1, lk1, (mb_ev sl1), (mb_od sl1), ht1, hx, he)) : wY_invoke_143 post J op arg (nI cur) x6 (nI k) x8 x9 (nI n) (nI p) (nI nd) (nI c) flt par rev regs pop px py plen pcs st kd hm lk (mb_ev sl) (mb_od sl) ht hx he := by
  simp (disch := omega) only [wY_invoke_143, nI_clamp, vp_in_nI, nI_1, nI_add, mb_lt_t, mb_lt_f, mb_le_t, mb_le_f, mb_ne, mb_lt0, mb_le0, mb_m1, mb_m1l, mb_m1g, mb_m1n, mb_x2, mb_x4, mb_x32, mb_lt_4, mb_le_4, mb_ge_4, mb_gt_4, mb_le_3, mb_gt_3, mb_le_7, mb_gt_7, mb_lt_32, mb_ge_32, mb_lt_128, mb_ge_128, mb_ge_1, mb_lt_1, mb_ge_1f, mb_lt_1t, not_true, not_false_iff, false_implies, true_implies, true_and, and_true, forall_eq, forall_const, eq_self, mb_e10]
  refine cY _ ?_
  simp (disch := omega) only [nI_clamp, vp_in_nI, nI_1, nI_add, mb_lt_t, mb_lt_f, mb_le_t, mb_le_f, mb_ne, mb_lt0, mb_le0, mb_m1, mb_m1l, mb_m1g, mb_m1n, mb_x2, mb_x4, mb_x32, mb_lt_4, mb_le_4, mb_ge_4, mb_gt_4, mb_le_3, mb_gt_3, mb_le_7, mb_gt_7, mb_lt_32, mb_ge_32, mb_lt_128, mb_ge_128, mb_ge_1, mb_lt_1, mb_ge_1f, mb_lt_1t, not_true, not_false_iff, false_implies, true_implies, true_and, and_true, forall_eq, forall_const, eq_self, mb_e10]
  exact K
theorem my_iac {post : Int32 → SY → Prop} {m cur k : Nat} {x6 : Int32} (hcur : cur < 32) (hk : k < 32) (k3 : ¬ kd cur = 3)
    (K : wY_invoke_212 post op arg (nI cur) (nI k) (nI n) (nI p) (nI nd) (nI c) flt par rev regs pop px py plen pcs st kd hm lk (mb_ev sl) (mb_od sl) ht hx he) : wY_invoke_33 post op (m + 1) arg (nI cur) x6 (nI k) (nI n) (nI p) (nI nd) (nI c) flt par rev regs pop px py plen pcs st kd hm lk (mb_ev sl) (mb_od sl) ht hx he := by
  simp (disch := omega) only [wY_invoke_33, nI_clamp, vp_in_nI, nI_1, nI_add, mb_lt_t, mb_lt_f, mb_le_t, mb_le_f, mb_ne, mb_lt0, mb_le0, mb_m1, mb_m1l, mb_m1g, mb_m1n, mb_x2, mb_x4, mb_x32, mb_lt_4, mb_le_4, mb_ge_4, mb_gt_4, mb_le_3, mb_gt_3, mb_le_7, mb_gt_7, mb_lt_32, mb_ge_32, mb_lt_128, mb_ge_128, mb_ge_1, mb_lt_1, mb_ge_1f, mb_lt_1t, not_true, not_false_iff, false_implies, true_implies, true_and, and_true, forall_eq, forall_const, eq_self, mb_e10, k3]
  exact K
theorem mb_pm (k : Nat) : nI k - 1 = nI k + -1 := Int32.sub_eq_add_neg _ _
/-- an invocation from the object cur on: both sides in one outcome -/
theorem mb_inv (hop : op = 2 ∨ op = 3 ∨ op = 4 ∨ op = 5 ∨ op = 6) : ∀ (M cur c : Nat) (kd hm lk ht sl path hx he : Nat → Int32) (arg : Int32) (k : Nat) (g : Nat → Nat), cur < M → cur < c →
    mb_H n nd c kd hm lk sl → mb_ref c arg → cur + k ≤ 31 → mb_W nd k g path hx he →
    ∃ (c' : Nat) (kd' hm' lk' ht' sl' : Nat → Int32) (rev' path' hx' he' : Nat → Int32) (rX rY flt' : Int32), mb_H n nd c' kd' hm' lk' sl' ∧ mb_E c kd hm lk c' kd' hm' lk' ∧ mb_V nd rev rev' ∧ mb_A c' rX rY flt' ∧
      (∀ (p : Nat) (par st pcs regs plen pop px py : Nat → Int32) (post : Int32 → SX → Prop), post rX (nI n, nI p, nI nd, nI c', par, rev', st, pcs, regs, plen, pop, px, py, kd', hm', lk', ht', sl', path') → ∀ m, cur < m → wX_invoke_25 post op m (nI cur) arg (nI k) (nI n) (nI p) (nI nd) (nI c) par rev st pcs regs plen pop px py kd hm lk ht sl path) ∧
      (∀ (p : Nat) (par regs pop px py plen pcs st : Nat → Int32) (post : Int32 → SY → Prop), post rY (nI n, nI p, nI nd, nI c', flt', par, rev', regs, pop, px, py, plen, pcs, st, kd', hm', lk', (mb_ev sl'), (mb_od sl'), ht', hx', he') → ∀ m, cur < m → wY_invoke_33 post op m arg (nI cur) (nI (g k)) (nI k) (nI n) (nI p) (nI nd) (nI c) 0 par rev regs pop px py plen pcs st kd hm lk (mb_ev sl) (mb_od sl) ht hx he) := by
  intro M
  induction M with
  | zero => intro cur c kd hm lk ht sl path hx he arg k g h; omega
  | succ M ih =>
    intro cur c kd hm lk ht sl path hx he arg k g hM hcur H harg hk W
    have hn : n ≤ 32 := H.2.1
    have hcn : c ≤ n := H.1
    have hnd : nd ≤ 4 := H.2.2.2.1
    have o := mb_H_ob H hcur
    by_cases k3 : kd cur = 3
    · obtain ⟨t, h1, et⟩ := mb_fw o k3
      obtain ⟨h, hh, eh⟩ := o.1
      obtain ⟨e, hh', ee⟩ := (mb_H_ob H (show t < c by omega)).1
      obtain ⟨x1, ex⟩ := W.1 k (by omega)
      have hmx := mb_mx_lt (d := 4) (show h < 4 by omega) (show e < 4 by omega)
      by_cases rv : rev (mb_mx h e) = 0
      · obtain ⟨c1, kd1, hm1, lk1, ht1, sl1, aX, aY, H1, E1, hA, cX, cY⟩ := mb_carry H harg x1 hh' (upd ht cur (ht cur + 1))
        have hc1 : c1 ≤ 32 := Nat.le_trans H1.1 H1.2.1
        have hcc : c ≤ c1 := E1.1
        rcases hA with ⟨r1, rfl⟩ | ⟨rfl, rfl⟩
        · obtain ⟨c', kd', hm', lk', ht', sl', rev', path', hx', he', rX, rY, flt', H2, E2, V2, A2, iX, iY⟩ := ih t c1 kd1 hm1 lk1 ht1 sl1 _ _ _ aY (k + 1) _ (by omega) (by omega) H1 r1 (by omega) (mb_W_s W hh')
          refine ⟨c', kd', hm', lk', ht', sl', rev', path', hx', he', rX, rY, flt', H2, mb_E_tr E1 E2, V2, A2, ?_, ?_⟩
          · intro p par st pcs regs plen pop px py post K m hm0
            obtain ⟨m, rfl⟩ : ∃ q, m = q + 1 := ⟨m - 1, by omega⟩
            exact mx_igo (by omega) (by omega) (by omega) (by omega) (by omega) k3 et ee eh rv ex (fun post' K' => cX p par rev st pcs regs plen pop px py path post' K') (mb_ref_le r1 hc1).1 (iX p par st pcs regs plen pop px py post K m (by omega))
          · intro p par regs pop px py plen pcs st post K m hm0
            obtain ⟨m, rfl⟩ : ∃ q, m = q + 1 := ⟨m - 1, by omega⟩
            have J := iY p par regs pop px py plen pcs st post K m (by omega)
            simp only [if_true] at J
            exact my_i33 (by omega) (by omega) (by omega) (by omega) (by omega) (by omega) k3 et ee eh (my_i113 (by omega) rv (my_i143 (by omega) (by omega) (fun post' K' => cY p 0 par rev regs pop px py plen pcs st hx he post' K') (mb_ref_le r1 hc1).2 J))
        · refine ⟨c1, kd1, hm1, lk1, ht1, sl1, rev, path, hx, he, -4, -1, 3, H1, E1, fun _ _ => rfl, Or.inr ⟨3, by omega, by omega, rfl, by decide⟩, ?_, ?_⟩
          · intro p par st pcs regs plen pop px py post K m hm0
            obtain ⟨m, rfl⟩ : ∃ q, m = q + 1 := ⟨m - 1, by omega⟩
            exact mx_ifl (by omega) (by omega) (by omega) (by omega) (by omega) k3 et ee eh rv ex (fun post' K' => cX p par rev st pcs regs plen pop px py path post' K') K
          · intro p par regs pop px py plen pcs st post K m hm0
            obtain ⟨m, rfl⟩ : ∃ q, m = q + 1 := ⟨m - 1, by omega⟩
            exact my_i33 (by omega) (by omega) (by omega) (by omega) (by omega) (by omega) k3 et ee eh (my_i113 (by omega) rv (my_i143f (by omega) (by omega) (fun post' K' => cY p 0 par rev regs pop px py plen pcs st hx he post' K') K))
      · refine ⟨c, kd, hm, lk, ht, sl, rev, path, hx, he, -3, -1, 2, H, mb_E_rf, fun _ _ => rfl, Or.inr ⟨2, by omega, by omega, rfl, by decide⟩, ?_, ?_⟩
        · intro p par st pcs regs plen pop px py post K m hm0
          obtain ⟨m, rfl⟩ : ∃ q, m = q + 1 := ⟨m - 1, by omega⟩
          exact mx_irv (by omega) (by omega) (by omega) (by omega) (by omega) k3 et ee eh rv K
        · intro p par regs pop px py plen pcs st post K m hm0
          obtain ⟨m, rfl⟩ : ∃ q, m = q + 1 := ⟨m - 1, by omega⟩
          exact my_i33 (by omega) (by omega) (by omega) (by omega) (by omega) (by omega) k3 et ee eh (my_i113r (by omega) rv K)
    · obtain ⟨rev', sl1, res, V1, H1, r1, aX, aY⟩ := mb_act H hcur k3 harg hop rev ht
      obtain ⟨c', kd', hm', lk', ht', sl', rX, rY, flt', H2, E2, A2, iX, iY⟩ := mb_back (rev := rev') k c kd hm lk (upd ht cur (ht cur + 1)) sl1 res H1 r1 W (by omega)
      refine ⟨c', kd', hm', lk', ht', sl', rev', path, hx, he, rX, rY, flt', H2, E2, V1, A2, ?_, ?_⟩
      · intro p par st pcs regs plen pop px py post K m hm0
        obtain ⟨m, rfl⟩ : ∃ q, m = q + 1 := ⟨m - 1, by omega⟩
        refine mx_iac (by omega) (by omega) k3 ?_
        refine aX path p par st pcs regs plen pop px py _ ?_
        refine nm_r (mb_pm k) ?_
        exact ⟨k + 1, iX p par st pcs regs plen pop px py _ K (k + 1) (by omega)⟩
      · intro p par regs pop px py plen pcs st post K m hm0
        obtain ⟨m, rfl⟩ : ∃ q, m = q + 1 := ⟨m - 1, by omega⟩
        refine my_iac (by omega) (by omega) k3 ?_
        refine aY hx he p par regs pop px py plen pcs st post (nI k) ?_
        rw [mb_pm]
        exact ⟨k + 1, iY p par regs pop px py plen pcs st post K (k + 1) (by omega)⟩
/-- INVOKE: both sides in one outcome -/
theorem mb_invoke (H : mb_H n nd c kd hm lk sl) (hop : op = 2 ∨ op = 3 ∨ op = 4 ∨ op = 5 ∨ op = 6) {r : Int32} (hr : mb_ref c r) {d : Nat} (hd : d < nd) (harg : mb_ref c arg) (rev ht path hx he : Nat → Int32) :
    ∃ (c' : Nat) (kd' hm' lk' ht' sl' : Nat → Int32) (rev' path' hx' he' : Nat → Int32) (rX rY flt' : Int32), mb_H n nd c' kd' hm' lk' sl' ∧ mb_E c kd hm lk c' kd' hm' lk' ∧ mb_V nd rev rev' ∧ mb_A c' rX rY flt' ∧
      (∀ (p : Nat) (par st pcs regs plen pop px py : Nat → Int32) (post : Int32 → SX → Prop), post rX (nI n, nI p, nI nd, nI c', par, rev', st, pcs, regs, plen, pop, px, py, kd', hm', lk', ht', sl', path') → wpX_invoke post (nI n, nI p, nI nd, nI c, par, rev, st, pcs, regs, plen, pop, px, py, kd, hm, lk, ht, sl, path) (nI d) r op arg) ∧
      (∀ (flt : Int32) (p : Nat) (par regs pop px py plen pcs st : Nat → Int32) (post : Int32 → SY → Prop), post rY (nI n, nI p, nI nd, nI c', flt', par, rev', regs, pop, px, py, plen, pcs, st, kd', hm', lk', (mb_ev sl'), (mb_od sl'), ht', hx', he') → wpY_invoke post (nI n, nI p, nI nd, nI c, flt, par, rev, regs, pop, px, py, plen, pcs, st, kd, hm, lk, mb_ev sl, mb_od sl, ht, hx, he) (nI d) r op arg) := by
  have hn : n ≤ 32 := H.2.1
  have hcn : c ≤ n := H.1
  rcases hr with rfl | ⟨j, hj, rfl⟩
  · refine ⟨c, kd, hm, lk, ht, sl, rev, path, hx, he, -2, -1, 1, H, mb_E_rf, fun _ _ => rfl, Or.inr ⟨1, by omega, by omega, rfl, by decide⟩, ?_, ?_⟩
    · intro p par st pcs regs plen pop px py post K
      exact br_t rfl K
    · intro flt p par regs pop px py plen pcs st post K
      exact br_t (by decide) K
  · obtain ⟨c', kd', hm', lk', ht', sl', rev', path', hx', he', rX, rY, flt', H2, E2, V2, A2, iX, iY⟩ := mb_inv (rev := rev) hop (j + 1) j c kd hm lk ht sl _ hx he arg 0 _ (by omega) hj H harg (by omega) (mb_W_0 (path := path) hd)
    refine ⟨c', kd', hm', lk', ht', sl', rev', path', hx', he', rX, rY, flt', H2, E2, V2, A2, ?_, ?_⟩
    · intro p par st pcs regs plen pop px py post K
      refine br_f (mb_n1 (by omega)) (nm_e ?_)
      exact ⟨j + 1, iX p par st pcs regs plen pop px py post K (j + 1) (by omega)⟩
    · intro flt p par regs pop px py plen pcs st post K
      refine br_f (nI_pos (by omega)) (br_t (nI_lt hj (by omega)) ?_)
      exact ⟨j + 1, iY p par regs pop px py plen pcs st post K (j + 1) (by omega)⟩
end
