section
variable {n p nd c c1 : Nat} {par rev st pcs regs plen pop px py kd hm lk ht sl path kd1 hm1 lk1 ht1 sl1 : Nat → Int32} {aX res op arg : Int32}
theorem mb_rm_set (rev : Nat → Int32) (l : Nat) : mb_rm rev (upd rev l 1) := by
  intro i h
  by_cases e : i = l
  · rw [e, pk_us]; decide
  · rw [pk_un e]; exact h
/-- what a box or a revoker does -/
theorem mb_act (H : mb_H n nd c par kd hm lk sl) {cur : Nat} (hcur : cur < c) (k3 : ¬ kd cur = 3) (harg : mb_rf c hm (hm cur) arg) (hop : op = 2 ∨ op = 3 ∨ op = 4 ∨ op = 5 ∨ op = 6) (rev ht : Nat → Int32) :
    ∃ (rev' sl' : Nat → Int32) (res : Int32), mb_V nd rev rev' ∧ mb_H n nd c par kd hm lk sl' ∧ mb_rf c hm (hm cur) res ∧ (∀ S : Int32 → Prop, S (hm cur) → mb_Fr S c hm ht sl (upd ht cur (ht cur + 1)) sl') ∧
      (∀ (path : Nat → Int32) (p : Nat) (st pcs regs plen pop px py : Nat → Int32) (post : Int32 → St2 → Prop), post res (nI n, nI p, nI nd, nI c, par, rev', st, pcs, regs, plen, pop, px, py, kd, hm, lk, (upd ht cur (ht cur + 1)), sl', path) → wpX_act post (nI n, nI p, nI nd, nI c, par, rev, st, pcs, regs, plen, pop, px, py, kd, hm, lk, ht, sl, path) (nI cur) op arg) := by
  have hn : n ≤ 32 := H.2.1
  have hcn : c ≤ n := H.1
  have hnd : nd ≤ 4 := H.2.2.2.1
  have fset : ∀ (j q : Nat) (v : Int32), (q = 0 ∨ q = 1) → j = cur * 2 + q → ∀ S : Int32 → Prop, S (hm cur) → mb_Fr S c hm ht sl (upd ht cur (ht cur + 1)) (upd sl j v) := by
    intro j q v hq hj S s i hi z
    have e : i ≠ cur := fun e => z (by rw [e]; exact s)
    exact ⟨pk_un e, pk_un (by omega), pk_un (by omega)⟩
  obtain ⟨a, ha, ea, ⟨kk, lkk⟩ | ⟨kk, l, l1, l2, el⟩ | ⟨kk, -⟩⟩ := mb_H_ob H hcur
  · obtain ⟨s0, s1⟩ := H.2.2.2.2.2.1 cur hcur kk
    rcases hop with rfl | rfl | rfl | rfl | rfl
    · refine ⟨rev, sl, sl (cur * 2), mb_V_rf, H, s0, fun S s => mb_Fr_hit s, ?_⟩
      intro path p st pcs regs plen pop px py post K
      simp (disch := omega) only [wpX_act, nI_clamp, vp_in_nI, nI_1, nI_add, mb_lt_t, mb_lt_f, mb_le_t, mb_le_f, mb_ne, mb_lt0, mb_le0, mb_m1, mb_m1l, mb_m1g, mb_m1n, mb_x2, mb_x4, mb_x32, mb_lt_4, mb_le_4, mb_ge_4, mb_gt_4, mb_le_3, mb_gt_3, mb_le_7, mb_gt_7, mb_lt_32, mb_ge_32, mb_lt_128, mb_ge_128, mb_ge_1, mb_lt_1, mb_ge_1f, mb_lt_1t, not_true, not_false_iff, false_implies, true_implies, true_and, and_true, forall_eq, forall_const, eq_self, mb_e10, mb_e01, mb_e02, mb_e03, mb_e04, mb_e05, mb_e06, mb_e07, mb_l00, mb_l02, mb_g50, mb_g60, mb_e10, mb_e12, mb_e13, mb_e14, mb_e15, mb_e16, mb_e17, mb_l10, mb_l12, mb_g51, mb_g61, mb_e20, mb_e21, mb_e23, mb_e24, mb_e25, mb_e26, mb_e27, mb_l20, mb_l22, mb_g52, mb_g62, mb_e30, mb_e31, mb_e32, mb_e34, mb_e35, mb_e36, mb_e37, mb_l30, mb_l32, mb_g53, mb_g63, mb_e40, mb_e41, mb_e42, mb_e43, mb_e45, mb_e46, mb_e47, mb_l40, mb_l42, mb_g54, mb_g64, mb_e50, mb_e51, mb_e52, mb_e53, mb_e54, mb_e56, mb_e57, mb_l50, mb_l52, mb_g55, mb_g65, mb_e60, mb_e61, mb_e62, mb_e63, mb_e64, mb_e65, mb_e67, mb_l60, mb_l62, mb_g56, mb_g66, mb_e70, mb_e71, mb_e72, mb_e73, mb_e74, mb_e75, mb_e76, mb_l70, mb_l72, mb_g57, mb_g67, kk]
      exact K
    · refine ⟨rev, sl, sl (cur * 2 + 1), mb_V_rf, H, s1, fun S s => mb_Fr_hit s, ?_⟩
      intro path p st pcs regs plen pop px py post K
      simp (disch := omega) only [wpX_act, nI_clamp, vp_in_nI, nI_1, nI_add, mb_lt_t, mb_lt_f, mb_le_t, mb_le_f, mb_ne, mb_lt0, mb_le0, mb_m1, mb_m1l, mb_m1g, mb_m1n, mb_x2, mb_x4, mb_x32, mb_lt_4, mb_le_4, mb_ge_4, mb_gt_4, mb_le_3, mb_gt_3, mb_le_7, mb_gt_7, mb_lt_32, mb_ge_32, mb_lt_128, mb_ge_128, mb_ge_1, mb_lt_1, mb_ge_1f, mb_lt_1t, not_true, not_false_iff, false_implies, true_implies, true_and, and_true, forall_eq, forall_const, eq_self, mb_e10, mb_e01, mb_e02, mb_e03, mb_e04, mb_e05, mb_e06, mb_e07, mb_l00, mb_l02, mb_g50, mb_g60, mb_e10, mb_e12, mb_e13, mb_e14, mb_e15, mb_e16, mb_e17, mb_l10, mb_l12, mb_g51, mb_g61, mb_e20, mb_e21, mb_e23, mb_e24, mb_e25, mb_e26, mb_e27, mb_l20, mb_l22, mb_g52, mb_g62, mb_e30, mb_e31, mb_e32, mb_e34, mb_e35, mb_e36, mb_e37, mb_l30, mb_l32, mb_g53, mb_g63, mb_e40, mb_e41, mb_e42, mb_e43, mb_e45, mb_e46, mb_e47, mb_l40, mb_l42, mb_g54, mb_g64, mb_e50, mb_e51, mb_e52, mb_e53, mb_e54, mb_e56, mb_e57, mb_l50, mb_l52, mb_g55, mb_g65, mb_e60, mb_e61, mb_e62, mb_e63, mb_e64, mb_e65, mb_e67, mb_l60, mb_l62, mb_g56, mb_g66, mb_e70, mb_e71, mb_e72, mb_e73, mb_e74, mb_e75, mb_e76, mb_l70, mb_l72, mb_g57, mb_g67, kk]
      exact K
    · refine ⟨rev, upd sl (cur * 2) arg, -1, mb_V_rf, mb_set H (q := 0) (Or.inl rfl) rfl harg, Or.inl rfl, fset _ 0 _ (Or.inl rfl) rfl, ?_⟩
      intro path p st pcs regs plen pop px py post K
      simp (disch := omega) only [wpX_act, nI_clamp, vp_in_nI, nI_1, nI_add, mb_lt_t, mb_lt_f, mb_le_t, mb_le_f, mb_ne, mb_lt0, mb_le0, mb_m1, mb_m1l, mb_m1g, mb_m1n, mb_x2, mb_x4, mb_x32, mb_lt_4, mb_le_4, mb_ge_4, mb_gt_4, mb_le_3, mb_gt_3, mb_le_7, mb_gt_7, mb_lt_32, mb_ge_32, mb_lt_128, mb_ge_128, mb_ge_1, mb_lt_1, mb_ge_1f, mb_lt_1t, not_true, not_false_iff, false_implies, true_implies, true_and, and_true, forall_eq, forall_const, eq_self, mb_e10, mb_e01, mb_e02, mb_e03, mb_e04, mb_e05, mb_e06, mb_e07, mb_l00, mb_l02, mb_g50, mb_g60, mb_e10, mb_e12, mb_e13, mb_e14, mb_e15, mb_e16, mb_e17, mb_l10, mb_l12, mb_g51, mb_g61, mb_e20, mb_e21, mb_e23, mb_e24, mb_e25, mb_e26, mb_e27, mb_l20, mb_l22, mb_g52, mb_g62, mb_e30, mb_e31, mb_e32, mb_e34, mb_e35, mb_e36, mb_e37, mb_l30, mb_l32, mb_g53, mb_g63, mb_e40, mb_e41, mb_e42, mb_e43, mb_e45, mb_e46, mb_e47, mb_l40, mb_l42, mb_g54, mb_g64, mb_e50, mb_e51, mb_e52, mb_e53, mb_e54, mb_e56, mb_e57, mb_l50, mb_l52, mb_g55, mb_g65, mb_e60, mb_e61, mb_e62, mb_e63, mb_e64, mb_e65, mb_e67, mb_l60, mb_l62, mb_g56, mb_g66, mb_e70, mb_e71, mb_e72, mb_e73, mb_e74, mb_e75, mb_e76, mb_l70, mb_l72, mb_g57, mb_g67, kk]
      exact K
    · refine ⟨rev, upd sl (cur * 2 + 1) arg, -1, mb_V_rf, mb_set H (q := 1) (Or.inr rfl) rfl harg, Or.inl rfl, fset _ 1 _ (Or.inr rfl) rfl, ?_⟩
      intro path p st pcs regs plen pop px py post K
      simp (disch := omega) only [wpX_act, nI_clamp, vp_in_nI, nI_1, nI_add, mb_lt_t, mb_lt_f, mb_le_t, mb_le_f, mb_ne, mb_lt0, mb_le0, mb_m1, mb_m1l, mb_m1g, mb_m1n, mb_x2, mb_x4, mb_x32, mb_lt_4, mb_le_4, mb_ge_4, mb_gt_4, mb_le_3, mb_gt_3, mb_le_7, mb_gt_7, mb_lt_32, mb_ge_32, mb_lt_128, mb_ge_128, mb_ge_1, mb_lt_1, mb_ge_1f, mb_lt_1t, not_true, not_false_iff, false_implies, true_implies, true_and, and_true, forall_eq, forall_const, eq_self, mb_e10, mb_e01, mb_e02, mb_e03, mb_e04, mb_e05, mb_e06, mb_e07, mb_l00, mb_l02, mb_g50, mb_g60, mb_e10, mb_e12, mb_e13, mb_e14, mb_e15, mb_e16, mb_e17, mb_l10, mb_l12, mb_g51, mb_g61, mb_e20, mb_e21, mb_e23, mb_e24, mb_e25, mb_e26, mb_e27, mb_l20, mb_l22, mb_g52, mb_g62, mb_e30, mb_e31, mb_e32, mb_e34, mb_e35, mb_e36, mb_e37, mb_l30, mb_l32, mb_g53, mb_g63, mb_e40, mb_e41, mb_e42, mb_e43, mb_e45, mb_e46, mb_e47, mb_l40, mb_l42, mb_g54, mb_g64, mb_e50, mb_e51, mb_e52, mb_e53, mb_e54, mb_e56, mb_e57, mb_l50, mb_l52, mb_g55, mb_g65, mb_e60, mb_e61, mb_e62, mb_e63, mb_e64, mb_e65, mb_e67, mb_l60, mb_l62, mb_g56, mb_g66, mb_e70, mb_e71, mb_e72, mb_e73, mb_e74, mb_e75, mb_e76, mb_l70, mb_l72, mb_g57, mb_g67, kk]
      exact K
    · refine ⟨rev, sl, -1, mb_V_rf, H, Or.inl rfl, fun S s => mb_Fr_hit s, ?_⟩
      intro path p st pcs regs plen pop px py post K
      simp (disch := omega) only [wpX_act, nI_clamp, vp_in_nI, nI_1, nI_add, mb_lt_t, mb_lt_f, mb_le_t, mb_le_f, mb_ne, mb_lt0, mb_le0, mb_m1, mb_m1l, mb_m1g, mb_m1n, mb_x2, mb_x4, mb_x32, mb_lt_4, mb_le_4, mb_ge_4, mb_gt_4, mb_le_3, mb_gt_3, mb_le_7, mb_gt_7, mb_lt_32, mb_ge_32, mb_lt_128, mb_ge_128, mb_ge_1, mb_lt_1, mb_ge_1f, mb_lt_1t, not_true, not_false_iff, false_implies, true_implies, true_and, and_true, forall_eq, forall_const, eq_self, mb_e10, mb_e01, mb_e02, mb_e03, mb_e04, mb_e05, mb_e06, mb_e07, mb_l00, mb_l02, mb_g50, mb_g60, mb_e10, mb_e12, mb_e13, mb_e14, mb_e15, mb_e16, mb_e17, mb_l10, mb_l12, mb_g51, mb_g61, mb_e20, mb_e21, mb_e23, mb_e24, mb_e25, mb_e26, mb_e27, mb_l20, mb_l22, mb_g52, mb_g62, mb_e30, mb_e31, mb_e32, mb_e34, mb_e35, mb_e36, mb_e37, mb_l30, mb_l32, mb_g53, mb_g63, mb_e40, mb_e41, mb_e42, mb_e43, mb_e45, mb_e46, mb_e47, mb_l40, mb_l42, mb_g54, mb_g64, mb_e50, mb_e51, mb_e52, mb_e53, mb_e54, mb_e56, mb_e57, mb_l50, mb_l52, mb_g55, mb_g65, mb_e60, mb_e61, mb_e62, mb_e63, mb_e64, mb_e65, mb_e67, mb_l60, mb_l62, mb_g56, mb_g66, mb_e70, mb_e71, mb_e72, mb_e73, mb_e74, mb_e75, mb_e76, mb_l70, mb_l72, mb_g57, mb_g67, kk]
      exact K
  · refine ⟨upd rev l 1, sl, -1, ⟨mb_rm_set rev l, fun i hi => pk_un (by omega)⟩, H, Or.inl rfl, fun S s => mb_Fr_hit s, ?_⟩
    intro path p st pcs regs plen pop px py post K
    simp (disch := omega) only [wpX_act, nI_clamp, vp_in_nI, nI_1, nI_add, mb_lt_t, mb_lt_f, mb_le_t, mb_le_f, mb_ne, mb_lt0, mb_le0, mb_m1, mb_m1l, mb_m1g, mb_m1n, mb_x2, mb_x4, mb_x32, mb_lt_4, mb_le_4, mb_ge_4, mb_gt_4, mb_le_3, mb_gt_3, mb_le_7, mb_gt_7, mb_lt_32, mb_ge_32, mb_lt_128, mb_ge_128, mb_ge_1, mb_lt_1, mb_ge_1f, mb_lt_1t, not_true, not_false_iff, false_implies, true_implies, true_and, and_true, forall_eq, forall_const, eq_self, mb_e10, kk, el]
    exact K
  · exact absurd kk k3
theorem mx_igo {post : Int32 → St2 → Prop} {m cur t h e k x : Nat} (hcur : cur < 32) (h1 : t < 32) (h2 : h < 4) (h3 : e < 4) (hk : k < 32)
    (k3 : kd cur = 3) (et : lk cur = nI t) (ee : hm t = nI e) (eh : hm cur = nI h) (rv : rev (mb_mx h e) = 0) (ex : path k = nI x)
    (cX : ∀ post' : Int32 → St2 → Prop, post' aX (nI n, nI p, nI nd, nI c1, par, rev, st, pcs, regs, plen, pop, px, py, kd1, hm1, lk1, ht1, sl1, path) → wpX_carry post' (nI n, nI p, nI nd, nI c, par, rev, st, pcs, regs, plen, pop, px, py, kd, hm, lk, (upd ht cur (ht cur + 1)), sl, path) arg (nI x) (nI e))
    (nf : -1 ≤ aX) (K : wX_invoke_25 post op m (nI t) aX (nI (k + 1)) (nI n) (nI p) (nI nd) (nI c1) par rev st pcs regs plen pop px py kd1 hm1 lk1 ht1 sl1 (upd path (k + 1) (nI e))) : wX_invoke_25 post op (m + 1) (nI cur) arg (nI k) (nI n) (nI p) (nI nd) (nI c) par rev st pcs regs plen pop px py kd hm lk ht sl path := by
  have hmx := mb_mx_lt (d := 4) h2 h3
  simp (disch := omega) only [wX_invoke_25, mx_mbE, nI_clamp, vp_in_nI, nI_1, nI_add, mb_lt_t, mb_lt_f, mb_le_t, mb_le_f, mb_ne, mb_lt0, mb_le0, mb_m1, mb_m1l, mb_m1g, mb_m1n, mb_x2, mb_x4, mb_x32, mb_lt_4, mb_le_4, mb_ge_4, mb_gt_4, mb_le_3, mb_gt_3, mb_le_7, mb_gt_7, mb_lt_32, mb_ge_32, mb_lt_128, mb_ge_128, mb_ge_1, mb_lt_1, mb_ge_1f, mb_lt_1t, not_true, not_false_iff, false_implies, true_implies, true_and, and_true, forall_eq, forall_const, eq_self, mb_e10, k3, et, ee, eh, rv, ex]
  refine cX _ ?_
  simp (disch := omega) only [wpX_isFault, nI_clamp, vp_in_nI, nI_1, nI_add, mb_lt_t, mb_lt_f, mb_le_t, mb_le_f, mb_ne, mb_lt0, mb_le0, mb_m1, mb_m1l, mb_m1g, mb_m1n, mb_x2, mb_x4, mb_x32, mb_lt_4, mb_le_4, mb_ge_4, mb_gt_4, mb_le_3, mb_gt_3, mb_le_7, mb_gt_7, mb_lt_32, mb_ge_32, mb_lt_128, mb_ge_128, mb_ge_1, mb_lt_1, mb_ge_1f, mb_lt_1t, not_true, not_false_iff, false_implies, true_implies, true_and, and_true, forall_eq, forall_const, eq_self, mb_e10, nf]
  exact K
theorem mx_ifl {post : Int32 → St2 → Prop} {m cur t h e k x : Nat} (hcur : cur < 32) (h1 : t < 32) (h2 : h < 4) (h3 : e < 4) (hk : k < 32)
    (k3 : kd cur = 3) (et : lk cur = nI t) (ee : hm t = nI e) (eh : hm cur = nI h) (rv : rev (mb_mx h e) = 0) (ex : path k = nI x)
    (cX : ∀ post' : Int32 → St2 → Prop, post' (-4) (nI n, nI p, nI nd, nI c1, par, rev, st, pcs, regs, plen, pop, px, py, kd1, hm1, lk1, ht1, sl1, path) → wpX_carry post' (nI n, nI p, nI nd, nI c, par, rev, st, pcs, regs, plen, pop, px, py, kd, hm, lk, (upd ht cur (ht cur + 1)), sl, path) arg (nI x) (nI e))
    (K : post (-4) (nI n, nI p, nI nd, nI c1, par, rev, st, pcs, regs, plen, pop, px, py, kd1, hm1, lk1, ht1, sl1, path)) : wX_invoke_25 post op (m + 1) (nI cur) arg (nI k) (nI n) (nI p) (nI nd) (nI c) par rev st pcs regs plen pop px py kd hm lk ht sl path := by
  have hmx := mb_mx_lt (d := 4) h2 h3
  have nf : ¬ ((-1 : Int32) ≤ -4) := by decide
  simp (disch := omega) only [wX_invoke_25, mx_mbE, nI_clamp, vp_in_nI, nI_1, nI_add, mb_lt_t, mb_lt_f, mb_le_t, mb_le_f, mb_ne, mb_lt0, mb_le0, mb_m1, mb_m1l, mb_m1g, mb_m1n, mb_x2, mb_x4, mb_x32, mb_lt_4, mb_le_4, mb_ge_4, mb_gt_4, mb_le_3, mb_gt_3, mb_le_7, mb_gt_7, mb_lt_32, mb_ge_32, mb_lt_128, mb_ge_128, mb_ge_1, mb_lt_1, mb_ge_1f, mb_lt_1t, not_true, not_false_iff, false_implies, true_implies, true_and, and_true, forall_eq, forall_const, eq_self, mb_e10, k3, et, ee, eh, rv, ex]
  refine cX _ ?_
  simp (disch := omega) only [wpX_isFault, nI_clamp, vp_in_nI, nI_1, nI_add, mb_lt_t, mb_lt_f, mb_le_t, mb_le_f, mb_ne, mb_lt0, mb_le0, mb_m1, mb_m1l, mb_m1g, mb_m1n, mb_x2, mb_x4, mb_x32, mb_lt_4, mb_le_4, mb_ge_4, mb_gt_4, mb_le_3, mb_gt_3, mb_le_7, mb_gt_7, mb_lt_32, mb_ge_32, mb_lt_128, mb_ge_128, mb_ge_1, mb_lt_1, mb_ge_1f, mb_lt_1t, not_true, not_false_iff, false_implies, true_implies, true_and, and_true, forall_eq, forall_const, eq_self, mb_e10, nf]
  exact K
theorem mx_irv {post : Int32 → St2 → Prop} {m cur t h e k : Nat} (hcur : cur < 32) (h1 : t < 32) (h2 : h < 4) (h3 : e < 4) (hk : k < 32)
    (k3 : kd cur = 3) (et : lk cur = nI t) (ee : hm t = nI e) (eh : hm cur = nI h) (rv : ¬ rev (mb_mx h e) = 0)
    (K : post (-3) (nI n, nI p, nI nd, nI c, par, rev, st, pcs, regs, plen, pop, px, py, kd, hm, lk, ht, sl, path)) : wX_invoke_25 post op (m + 1) (nI cur) arg (nI k) (nI n) (nI p) (nI nd) (nI c) par rev st pcs regs plen pop px py kd hm lk ht sl path := by
  have hmx := mb_mx_lt (d := 4) h2 h3
  simp (disch := omega) only [wX_invoke_25, mx_mbE, nI_clamp, vp_in_nI, nI_1, nI_add, mb_lt_t, mb_lt_f, mb_le_t, mb_le_f, mb_ne, mb_lt0, mb_le0, mb_m1, mb_m1l, mb_m1g, mb_m1n, mb_x2, mb_x4, mb_x32, mb_lt_4, mb_le_4, mb_ge_4, mb_gt_4, mb_le_3, mb_gt_3, mb_le_7, mb_gt_7, mb_lt_32, mb_ge_32, mb_lt_128, mb_ge_128, mb_ge_1, mb_lt_1, mb_ge_1f, mb_lt_1t, not_true, not_false_iff, false_implies, true_implies, true_and, and_true, forall_eq, forall_const, eq_self, mb_e10, k3, et, ee, eh, rv]
  exact K
theorem mx_iac {post : Int32 → St2 → Prop} {m cur k : Nat} (hcur : cur < 32) (hk : k < 32) (k3 : ¬ kd cur = 3)
    (K : wX_invoke_142 post op (nI cur) arg (nI k) (nI n) (nI p) (nI nd) (nI c) par rev st pcs regs plen pop px py kd hm lk ht sl path) : wX_invoke_25 post op (m + 1) (nI cur) arg (nI k) (nI n) (nI p) (nI nd) (nI c) par rev st pcs regs plen pop px py kd hm lk ht sl path := by
  simp (disch := omega) only [wX_invoke_25, nI_clamp, vp_in_nI, nI_1, nI_add, mb_lt_t, mb_lt_f, mb_le_t, mb_le_f, mb_ne, mb_lt0, mb_le0, mb_m1, mb_m1l, mb_m1g, mb_m1n, mb_x2, mb_x4, mb_x32, mb_lt_4, mb_le_4, mb_ge_4, mb_gt_4, mb_le_3, mb_gt_3, mb_le_7, mb_gt_7, mb_lt_32, mb_ge_32, mb_lt_128, mb_ge_128, mb_ge_1, mb_lt_1, mb_ge_1f, mb_lt_1t, not_true, not_false_iff, false_implies, true_implies, true_and, and_true, forall_eq, forall_const, eq_self, mb_e10, k3]
  exact K
theorem mb_pm (k : Nat) : nI k - 1 = nI k + -1 := Int32.sub_eq_add_neg _ _
/-- an invocation from the object cur on -/
theorem mb_inv (hop : op = 2 ∨ op = 3 ∨ op = 4 ∨ op = 5 ∨ op = 6) : ∀ (M cur c : Nat) (kd hm lk ht sl path : Nat → Int32) (arg : Int32) (k : Nat) (g : Nat → Nat), cur < M → cur < c → hm cur = nI (g k) →
    mb_H n nd c par kd hm lk sl → mb_rf c hm (nI (g k)) arg → cur + k ≤ 31 → mb_W par nd k g path →
    ∃ (c' : Nat) (kd' hm' lk' ht' sl' : Nat → Int32) (rev' path' : Nat → Int32) (rX : Int32), mb_H n nd c' par kd' hm' lk' sl' ∧ mb_E c kd hm lk c' kd' hm' lk' ∧ mb_V nd rev rev' ∧ mb_A c' hm' (nI (g 0)) rX ∧
      (∀ S, mb_cl par rev nd S → S (nI (g k)) → mb_Fr S c hm ht sl ht' sl') ∧
      (∀ (p : Nat) (st pcs regs plen pop px py : Nat → Int32) (post : Int32 → St2 → Prop), post rX (nI n, nI p, nI nd, nI c', par, rev', st, pcs, regs, plen, pop, px, py, kd', hm', lk', ht', sl', path') → ∀ m, cur < m → wX_invoke_25 post op m (nI cur) arg (nI k) (nI n) (nI p) (nI nd) (nI c) par rev st pcs regs plen pop px py kd hm lk ht sl path) := by
  intro M
  induction M with
  | zero => intro cur c kd hm lk ht sl path arg k g h; omega
  | succ M ih =>
    intro cur c kd hm lk ht sl path arg k g hM hcur hcg H harg hk W
    have hn : n ≤ 32 := H.2.1
    have hcn : c ≤ n := H.1
    have hnd : nd ≤ 4 := H.2.2.2.1
    have o := mb_H_ob H hcur
    obtain ⟨x1, ex⟩ := W.1 k (by omega)
    by_cases k3 : kd cur = 3
    · obtain ⟨h, t, e, hh, eh, h1, et, hh', ee, had, -⟩ := mb_fw o k3
      have hg : h = g k := (nI_eq (by omega) (by omega)).mp (eh.symm.trans hcg)
      subst hg
      have hmx := mb_mx_lt (d := 4) (show g k < 4 by omega) (show e < 4 by omega)
      by_cases rv : rev (mb_mx (g k) e) = 0
      · obtain ⟨c1, kd1, hm1, lk1, ht1, sl1, aX, H1, E1, F1, hA, cX⟩ := mb_carry H harg x1 hh' had (upd ht cur (ht cur + 1))
        have hc1 : c1 ≤ 32 := Nat.le_trans H1.1 H1.2.1
        have hcc : c ≤ c1 := E1.1
        rcases hA with r1 | rfl
        · obtain ⟨g', eg, eg0, W'⟩ : ∃ g' : Nat → Nat, g' (k + 1) = e ∧ g' 0 = g 0 ∧ mb_W par nd (k + 1) g' (upd path (k + 1) (nI e)) :=
            ⟨fun i => if i = k + 1 then e else g i, by simp only [if_true], by simp only [if_neg (show ¬ 0 = k + 1 by omega)], mb_W_s W hh' had⟩
          obtain ⟨c', kd', hm', lk', ht', sl', rev', path', rX, H2, E2, V2, A2, F2, iX⟩ := ih t c1 kd1 hm1 lk1 ht1 sl1 _ aX (k + 1) g' (by omega) (by omega) (by rw [eg, (E1.2 t (by omega)).2.1]; exact ee) H1 (by rw [eg]; exact r1) (by omega) W'
          rw [eg0] at A2
          rw [eg] at F2
          refine ⟨c', kd', hm', lk', ht', sl', rev', path', rX, H2, mb_E_tr E1 E2, V2, A2, ?_, ?_⟩
          · intro S cl s
            have s2 : S (nI e) := (cl _ _ x1 hh' had s).resolve_left (fun z => z rv)
            exact mb_Fr_tr (mb_Fr_tr (mb_Fr_hit (by rw [hcg]; exact s)) (mb_E_rf (kd := kd) (lk := lk)) (F1 S)) E1 (F2 S cl s2)
          · intro p st pcs regs plen pop px py post K m hm0
            obtain ⟨m, rfl⟩ : ∃ q, m = q + 1 := ⟨m - 1, by omega⟩
            exact mx_igo (by omega) (by omega) (by omega) (by omega) (by omega) k3 et ee eh rv ex (fun post' K' => cX p rev st pcs regs plen pop px py path post' K') (mb_rf_le r1 hc1) (iX p st pcs regs plen pop px py post K m (by omega))
        · refine ⟨c1, kd1, hm1, lk1, ht1, sl1, rev, path, -4, H1, E1, mb_V_rf, Or.inr ⟨3, by omega, by omega, by decide⟩, ?_, ?_⟩
          · intro S cl s
            exact mb_Fr_tr (mb_Fr_hit (by rw [hcg]; exact s)) (mb_E_rf (kd := kd) (lk := lk)) (F1 S)
          · intro p st pcs regs plen pop px py post K m hm0
            obtain ⟨m, rfl⟩ : ∃ q, m = q + 1 := ⟨m - 1, by omega⟩
            exact mx_ifl (by omega) (by omega) (by omega) (by omega) (by omega) k3 et ee eh rv ex (fun post' K' => cX p rev st pcs regs plen pop px py path post' K') K
      · refine ⟨c, kd, hm, lk, ht, sl, rev, path, -3, H, mb_E_rf, mb_V_rf, Or.inr ⟨2, by omega, by omega, by decide⟩, fun S _ _ => mb_Fr_rf, ?_⟩
        intro p st pcs regs plen pop px py post K m hm0
        obtain ⟨m, rfl⟩ : ∃ q, m = q + 1 := ⟨m - 1, by omega⟩
        exact mx_irv (by omega) (by omega) (by omega) (by omega) (by omega) k3 et ee eh rv K
    · obtain ⟨rev', sl1, res, V1, H1, r1, F1, aX⟩ := mb_act H hcur k3 (by rw [hcg]; exact harg) hop rev ht
      rw [hcg] at r1
      obtain ⟨c', kd', hm', lk', ht', sl', rX, H2, E2, F2, A2, iX⟩ := mb_back (rev := rev') k c kd hm lk (upd ht cur (ht cur + 1)) sl1 res H1 r1 W (by omega)
      refine ⟨c', kd', hm', lk', ht', sl', rev', path, rX, H2, E2, V1, A2, ?_, ?_⟩
      · intro S cl s
        exact mb_Fr_tr (F1 S (by rw [hcg]; exact s)) (mb_E_rf (kd := kd) (lk := lk)) (F2 S)
      · intro p st pcs regs plen pop px py post K m hm0
        obtain ⟨m, rfl⟩ : ∃ q, m = q + 1 := ⟨m - 1, by omega⟩
        refine mx_iac (by omega) (by omega) k3 ?_
        refine aX path p st pcs regs plen pop px py _ ?_
        refine nm_r (mb_pm k) ?_
        exact ⟨k + 1, iX p st pcs regs plen pop px py _ K (k + 1) (by omega)⟩
/-- INVOKE -/
theorem mb_invoke (H : mb_H n nd c par kd hm lk sl) (hop : op = 2 ∨ op = 3 ∨ op = 4 ∨ op = 5 ∨ op = 6) {r : Int32} {d : Nat} (hr : mb_rf c hm (nI d) r) (hd : d < nd) (harg : mb_rf c hm (nI d) arg) (rev ht path : Nat → Int32) :
    ∃ (c' : Nat) (kd' hm' lk' ht' sl' : Nat → Int32) (rev' path' : Nat → Int32) (rX : Int32), mb_H n nd c' par kd' hm' lk' sl' ∧ mb_E c kd hm lk c' kd' hm' lk' ∧ mb_V nd rev rev' ∧ mb_A c' hm' (nI d) rX ∧
      (∀ S, mb_cl par rev nd S → S (nI d) → mb_Fr S c hm ht sl ht' sl') ∧
      (∀ (p : Nat) (st pcs regs plen pop px py : Nat → Int32) (post : Int32 → St2 → Prop), post rX (nI n, nI p, nI nd, nI c', par, rev', st, pcs, regs, plen, pop, px, py, kd', hm', lk', ht', sl', path') → wpX_invoke post (nI n, nI p, nI nd, nI c, par, rev, st, pcs, regs, plen, pop, px, py, kd, hm, lk, ht, sl, path) (nI d) r op arg) := by
  have hn : n ≤ 32 := H.2.1
  have hcn : c ≤ n := H.1
  rcases hr with rfl | ⟨j, hj, rfl, ej⟩
  · refine ⟨c, kd, hm, lk, ht, sl, rev, path, -2, H, mb_E_rf, mb_V_rf, Or.inr ⟨1, by omega, by omega, by decide⟩, fun S _ _ => mb_Fr_rf, ?_⟩
    intro p st pcs regs plen pop px py post K
    exact br_t rfl K
  · obtain ⟨c', kd', hm', lk', ht', sl', rev', path', rX, H2, E2, V2, A2, F2, iX⟩ := mb_inv (rev := rev) hop (j + 1) j c kd hm lk ht sl _ arg 0 _ (by omega) hj ej H harg (by omega) (mb_W_0 (par := par) (path := path) hd)
    refine ⟨c', kd', hm', lk', ht', sl', rev', path', rX, H2, E2, V2, A2, F2, ?_⟩
    intro p st pcs regs plen pop px py post K
    refine br_f (mb_n1 (by omega)) (nm_e ?_)
    exact ⟨j + 1, iX p st pcs regs plen pop px py post K (j + 1) (by omega)⟩
end
