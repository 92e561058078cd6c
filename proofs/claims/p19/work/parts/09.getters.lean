section
variable {n p nd c : Nat} {par rev st pcs regs plen pop px py kd hm lk ht sl path : Nat → Int32} {post : Int32 → Prop}
theorem mx_kind_t {i : Nat} (hi : i < c) (hc : c ≤ 32) : wpX_kind post (nI n, nI p, nI nd, nI c, par, rev, st, pcs, regs, plen, pop, px, py, kd, hm, lk, ht, sl, path) (nI i) = post (kd i) := by
  simp (disch := omega) only [wpX_kind, wpX_objectExists, nI_clamp, vp_in_nI, nI_1, nI_add, mb_lt_t, mb_lt_f, mb_le_t, mb_le_f, mb_ne, mb_lt0, mb_le0, mb_m1, mb_m1l, mb_m1g, mb_m1n, mb_x2, mb_x4, mb_x32, mb_lt_4, mb_le_4, mb_ge_4, mb_gt_4, mb_le_3, mb_gt_3, mb_le_7, mb_gt_7, mb_lt_32, mb_ge_32, mb_lt_128, mb_ge_128, mb_ge_1, mb_lt_1, mb_ge_1f, mb_lt_1t, not_true, not_false_iff, false_implies, true_implies, true_and, and_true, forall_eq, forall_const, eq_self, mb_e10]
theorem mx_kind_f {i : Nat} (hi : c ≤ i) (h2 : i < 2 ^ 31) : wpX_kind post (nI n, nI p, nI nd, nI c, par, rev, st, pcs, regs, plen, pop, px, py, kd, hm, lk, ht, sl, path) (nI i) = post 0 := by
  simp (disch := omega) only [wpX_kind, wpX_objectExists, nI_clamp, vp_in_nI, nI_1, nI_add, mb_lt_t, mb_lt_f, mb_le_t, mb_le_f, mb_ne, mb_lt0, mb_le0, mb_m1, mb_m1l, mb_m1g, mb_m1n, mb_x2, mb_x4, mb_x32, mb_lt_4, mb_le_4, mb_ge_4, mb_gt_4, mb_le_3, mb_gt_3, mb_le_7, mb_gt_7, mb_lt_32, mb_ge_32, mb_lt_128, mb_ge_128, mb_ge_1, mb_lt_1, mb_ge_1f, mb_lt_1t, not_true, not_false_iff, false_implies, true_implies, true_and, and_true, forall_eq, forall_const, eq_self, mb_e10]
theorem mx_home_t {i : Nat} (hi : i < c) (hc : c ≤ 32) : wpX_home post (nI n, nI p, nI nd, nI c, par, rev, st, pcs, regs, plen, pop, px, py, kd, hm, lk, ht, sl, path) (nI i) = post (hm i) := by
  simp (disch := omega) only [wpX_home, wpX_objectExists, nI_clamp, vp_in_nI, nI_1, nI_add, mb_lt_t, mb_lt_f, mb_le_t, mb_le_f, mb_ne, mb_lt0, mb_le0, mb_m1, mb_m1l, mb_m1g, mb_m1n, mb_x2, mb_x4, mb_x32, mb_lt_4, mb_le_4, mb_ge_4, mb_gt_4, mb_le_3, mb_gt_3, mb_le_7, mb_gt_7, mb_lt_32, mb_ge_32, mb_lt_128, mb_ge_128, mb_ge_1, mb_lt_1, mb_ge_1f, mb_lt_1t, not_true, not_false_iff, false_implies, true_implies, true_and, and_true, forall_eq, forall_const, eq_self, mb_e10]
theorem mx_link_t {i : Nat} (hi : i < c) (hc : c ≤ 32) : wpX_link post (nI n, nI p, nI nd, nI c, par, rev, st, pcs, regs, plen, pop, px, py, kd, hm, lk, ht, sl, path) (nI i) = post (lk i) := by
  simp (disch := omega) only [wpX_link, wpX_objectExists, nI_clamp, vp_in_nI, nI_1, nI_add, mb_lt_t, mb_lt_f, mb_le_t, mb_le_f, mb_ne, mb_lt0, mb_le0, mb_m1, mb_m1l, mb_m1g, mb_m1n, mb_x2, mb_x4, mb_x32, mb_lt_4, mb_le_4, mb_ge_4, mb_gt_4, mb_le_3, mb_gt_3, mb_le_7, mb_gt_7, mb_lt_32, mb_ge_32, mb_lt_128, mb_ge_128, mb_ge_1, mb_lt_1, mb_ge_1f, mb_lt_1t, not_true, not_false_iff, false_implies, true_implies, true_and, and_true, forall_eq, forall_const, eq_self, mb_e10]
theorem mx_hits_t {i : Nat} (hi : i < c) (hc : c ≤ 32) : wpX_hits post (nI n, nI p, nI nd, nI c, par, rev, st, pcs, regs, plen, pop, px, py, kd, hm, lk, ht, sl, path) (nI i) = post (ht i) := by
  simp (disch := omega) only [wpX_hits, wpX_objectExists, nI_clamp, vp_in_nI, nI_1, nI_add, mb_lt_t, mb_lt_f, mb_le_t, mb_le_f, mb_ne, mb_lt0, mb_le0, mb_m1, mb_m1l, mb_m1g, mb_m1n, mb_x2, mb_x4, mb_x32, mb_lt_4, mb_le_4, mb_ge_4, mb_gt_4, mb_le_3, mb_gt_3, mb_le_7, mb_gt_7, mb_lt_32, mb_ge_32, mb_lt_128, mb_ge_128, mb_ge_1, mb_lt_1, mb_ge_1f, mb_lt_1t, not_true, not_false_iff, false_implies, true_implies, true_and, and_true, forall_eq, forall_const, eq_self, mb_e10]
theorem mx_par_t {i : Nat} (hi : i < nd) (hc : nd ≤ 4) : wpX_parent post (nI n, nI p, nI nd, nI c, par, rev, st, pcs, regs, plen, pop, px, py, kd, hm, lk, ht, sl, path) (nI i) = post (par i) := by
  simp (disch := omega) only [wpX_parent, wpX_domainExists, nI_clamp, vp_in_nI, nI_1, nI_add, mb_lt_t, mb_lt_f, mb_le_t, mb_le_f, mb_ne, mb_lt0, mb_le0, mb_m1, mb_m1l, mb_m1g, mb_m1n, mb_x2, mb_x4, mb_x32, mb_lt_4, mb_le_4, mb_ge_4, mb_gt_4, mb_le_3, mb_gt_3, mb_le_7, mb_gt_7, mb_lt_32, mb_ge_32, mb_lt_128, mb_ge_128, mb_ge_1, mb_lt_1, mb_ge_1f, mb_lt_1t, not_true, not_false_iff, false_implies, true_implies, true_and, and_true, forall_eq, forall_const, eq_self, mb_e10]
theorem mx_par_f {i : Nat} (hi : nd ≤ i) (h2 : i < 2 ^ 31) : wpX_parent post (nI n, nI p, nI nd, nI c, par, rev, st, pcs, regs, plen, pop, px, py, kd, hm, lk, ht, sl, path) (nI i) = post (-2) := by
  simp (disch := omega) only [wpX_parent, wpX_domainExists, nI_clamp, vp_in_nI, nI_1, nI_add, mb_lt_t, mb_lt_f, mb_le_t, mb_le_f, mb_ne, mb_lt0, mb_le0, mb_m1, mb_m1l, mb_m1g, mb_m1n, mb_x2, mb_x4, mb_x32, mb_lt_4, mb_le_4, mb_ge_4, mb_gt_4, mb_le_3, mb_gt_3, mb_le_7, mb_gt_7, mb_lt_32, mb_ge_32, mb_lt_128, mb_ge_128, mb_ge_1, mb_lt_1, mb_ge_1f, mb_lt_1t, not_true, not_false_iff, false_implies, true_implies, true_and, and_true, forall_eq, forall_const, eq_self, mb_e10]
theorem mx_reg_t {i r : Nat} (hi : i < nd) (hr : r < 4) (hc : nd ≤ 4) : wpX_reg post (nI n, nI p, nI nd, nI c, par, rev, st, pcs, regs, plen, pop, px, py, kd, hm, lk, ht, sl, path) (nI i) (nI r) = post (regs (i * 4 + r)) := by
  simp (disch := omega) only [wpX_reg, wpX_domainExists, wpX_isRegister, nI_clamp, vp_in_nI, nI_1, nI_add, mb_lt_t, mb_lt_f, mb_le_t, mb_le_f, mb_ne, mb_lt0, mb_le0, mb_m1, mb_m1l, mb_m1g, mb_m1n, mb_x2, mb_x4, mb_x32, mb_lt_4, mb_le_4, mb_ge_4, mb_gt_4, mb_le_3, mb_gt_3, mb_le_7, mb_gt_7, mb_lt_32, mb_ge_32, mb_lt_128, mb_ge_128, mb_ge_1, mb_lt_1, mb_ge_1f, mb_lt_1t, not_true, not_false_iff, false_implies, true_implies, true_and, and_true, forall_eq, forall_const, eq_self, mb_e10]
theorem mx_slot_n {i : Nat} {q : Int32} (hi : i < c) (hc : c ≤ 32) (k1 : ¬ kd i = 1) : wpX_slot post (nI n, nI p, nI nd, nI c, par, rev, st, pcs, regs, plen, pop, px, py, kd, hm, lk, ht, sl, path) (nI i) q = post (-1) := by
  simp (disch := omega) only [wpX_slot, wpX_objectExists, nI_clamp, vp_in_nI, nI_1, nI_add, mb_lt_t, mb_lt_f, mb_le_t, mb_le_f, mb_ne, mb_lt0, mb_le0, mb_m1, mb_m1l, mb_m1g, mb_m1n, mb_x2, mb_x4, mb_x32, mb_lt_4, mb_le_4, mb_ge_4, mb_gt_4, mb_le_3, mb_gt_3, mb_le_7, mb_gt_7, mb_lt_32, mb_ge_32, mb_lt_128, mb_ge_128, mb_ge_1, mb_lt_1, mb_ge_1f, mb_lt_1t, not_true, not_false_iff, false_implies, true_implies, true_and, and_true, forall_eq, forall_const, eq_self, mb_e10, k1]
theorem mx_slot_0 {i : Nat} (hi : i < c) (hc : c ≤ 32) (k1 : kd i = 1) : wpX_slot post (nI n, nI p, nI nd, nI c, par, rev, st, pcs, regs, plen, pop, px, py, kd, hm, lk, ht, sl, path) (nI i) 0 = post (sl (i * 2)) := by
  simp (disch := omega) only [wpX_slot, wpX_objectExists, nI_clamp, vp_in_nI, nI_1, nI_add, mb_lt_t, mb_lt_f, mb_le_t, mb_le_f, mb_ne, mb_lt0, mb_le0, mb_m1, mb_m1l, mb_m1g, mb_m1n, mb_x2, mb_x4, mb_x32, mb_lt_4, mb_le_4, mb_ge_4, mb_gt_4, mb_le_3, mb_gt_3, mb_le_7, mb_gt_7, mb_lt_32, mb_ge_32, mb_lt_128, mb_ge_128, mb_ge_1, mb_lt_1, mb_ge_1f, mb_lt_1t, not_true, not_false_iff, false_implies, true_implies, true_and, and_true, forall_eq, forall_const, eq_self, mb_e10, mb_e01, mb_e02, mb_e03, mb_e04, mb_e05, mb_e06, mb_e07, mb_l00, mb_l02, mb_g50, mb_g60, mb_e10, mb_e12, mb_e13, mb_e14, mb_e15, mb_e16, mb_e17, mb_l10, mb_l12, mb_g51, mb_g61, mb_e20, mb_e21, mb_e23, mb_e24, mb_e25, mb_e26, mb_e27, mb_l20, mb_l22, mb_g52, mb_g62, mb_e30, mb_e31, mb_e32, mb_e34, mb_e35, mb_e36, mb_e37, mb_l30, mb_l32, mb_g53, mb_g63, mb_e40, mb_e41, mb_e42, mb_e43, mb_e45, mb_e46, mb_e47, mb_l40, mb_l42, mb_g54, mb_g64, mb_e50, mb_e51, mb_e52, mb_e53, mb_e54, mb_e56, mb_e57, mb_l50, mb_l52, mb_g55, mb_g65, mb_e60, mb_e61, mb_e62, mb_e63, mb_e64, mb_e65, mb_e67, mb_l60, mb_l62, mb_g56, mb_g66, mb_e70, mb_e71, mb_e72, mb_e73, mb_e74, mb_e75, mb_e76, mb_l70, mb_l72, mb_g57, mb_g67, k1, Int32.add_zero, show ¬ (0 : Int32) < 0 from by decide]
theorem mx_slot_1 {i : Nat} (hi : i < c) (hc : c ≤ 32) (k1 : kd i = 1) : wpX_slot post (nI n, nI p, nI nd, nI c, par, rev, st, pcs, regs, plen, pop, px, py, kd, hm, lk, ht, sl, path) (nI i) 1 = post (sl (i * 2 + 1)) := by
  simp (disch := omega) only [wpX_slot, wpX_objectExists, nI_clamp, vp_in_nI, nI_1, nI_add, mb_lt_t, mb_lt_f, mb_le_t, mb_le_f, mb_ne, mb_lt0, mb_le0, mb_m1, mb_m1l, mb_m1g, mb_m1n, mb_x2, mb_x4, mb_x32, mb_lt_4, mb_le_4, mb_ge_4, mb_gt_4, mb_le_3, mb_gt_3, mb_le_7, mb_gt_7, mb_lt_32, mb_ge_32, mb_lt_128, mb_ge_128, mb_ge_1, mb_lt_1, mb_ge_1f, mb_lt_1t, not_true, not_false_iff, false_implies, true_implies, true_and, and_true, forall_eq, forall_const, eq_self, mb_e10, mb_e01, mb_e02, mb_e03, mb_e04, mb_e05, mb_e06, mb_e07, mb_l00, mb_l02, mb_g50, mb_g60, mb_e10, mb_e12, mb_e13, mb_e14, mb_e15, mb_e16, mb_e17, mb_l10, mb_l12, mb_g51, mb_g61, mb_e20, mb_e21, mb_e23, mb_e24, mb_e25, mb_e26, mb_e27, mb_l20, mb_l22, mb_g52, mb_g62, mb_e30, mb_e31, mb_e32, mb_e34, mb_e35, mb_e36, mb_e37, mb_l30, mb_l32, mb_g53, mb_g63, mb_e40, mb_e41, mb_e42, mb_e43, mb_e45, mb_e46, mb_e47, mb_l40, mb_l42, mb_g54, mb_g64, mb_e50, mb_e51, mb_e52, mb_e53, mb_e54, mb_e56, mb_e57, mb_l50, mb_l52, mb_g55, mb_g65, mb_e60, mb_e61, mb_e62, mb_e63, mb_e64, mb_e65, mb_e67, mb_l60, mb_l62, mb_g56, mb_g66, mb_e70, mb_e71, mb_e72, mb_e73, mb_e74, mb_e75, mb_e76, mb_l70, mb_l72, mb_g57, mb_g67, k1]
theorem mx_rvd_t {m : Nat} (h1 : 1 ≤ m) (hm' : m < nd) (hc : nd ≤ 4) (r : ¬ rev m = 0) : wpX_revoked post (nI n, nI p, nI nd, nI c, par, rev, st, pcs, regs, plen, pop, px, py, kd, hm, lk, ht, sl, path) (nI m) = post 1 := by
  simp (disch := omega) only [wpX_revoked, wpX_membraneExists, nI_clamp, vp_in_nI, nI_1, nI_add, mb_lt_t, mb_lt_f, mb_le_t, mb_le_f, mb_ne, mb_lt0, mb_le0, mb_m1, mb_m1l, mb_m1g, mb_m1n, mb_x2, mb_x4, mb_x32, mb_lt_4, mb_le_4, mb_ge_4, mb_gt_4, mb_le_3, mb_gt_3, mb_le_7, mb_gt_7, mb_lt_32, mb_ge_32, mb_lt_128, mb_ge_128, mb_ge_1, mb_lt_1, mb_ge_1f, mb_lt_1t, not_true, not_false_iff, false_implies, true_implies, true_and, and_true, forall_eq, forall_const, eq_self, mb_e10, r]
theorem mx_rvd_f {m : Nat} (h1 : 1 ≤ m) (h2 : m < 4) (hc : nd ≤ 4) (r : m < nd → rev m = 0) : wpX_revoked post (nI n, nI p, nI nd, nI c, par, rev, st, pcs, regs, plen, pop, px, py, kd, hm, lk, ht, sl, path) (nI m) = post 0 := by
  by_cases z : m < nd
  · have r' := r z
    simp (disch := omega) only [wpX_revoked, wpX_membraneExists, nI_clamp, vp_in_nI, nI_1, nI_add, mb_lt_t, mb_lt_f, mb_le_t, mb_le_f, mb_ne, mb_lt0, mb_le0, mb_m1, mb_m1l, mb_m1g, mb_m1n, mb_x2, mb_x4, mb_x32, mb_lt_4, mb_le_4, mb_ge_4, mb_gt_4, mb_le_3, mb_gt_3, mb_le_7, mb_gt_7, mb_lt_32, mb_ge_32, mb_lt_128, mb_ge_128, mb_ge_1, mb_lt_1, mb_ge_1f, mb_lt_1t, not_true, not_false_iff, false_implies, true_implies, true_and, and_true, forall_eq, forall_const, eq_self, mb_e10, r']
  · simp (disch := omega) only [wpX_revoked, wpX_membraneExists, nI_clamp, vp_in_nI, nI_1, nI_add, mb_lt_t, mb_lt_f, mb_le_t, mb_le_f, mb_ne, mb_lt0, mb_le0, mb_m1, mb_m1l, mb_m1g, mb_m1n, mb_x2, mb_x4, mb_x32, mb_lt_4, mb_le_4, mb_ge_4, mb_gt_4, mb_le_3, mb_gt_3, mb_le_7, mb_gt_7, mb_lt_32, mb_ge_32, mb_lt_128, mb_ge_128, mb_ge_1, mb_lt_1, mb_ge_1f, mb_lt_1t, not_true, not_false_iff, false_implies, true_implies, true_and, and_true, forall_eq, forall_const, eq_self, mb_e10]
/-! the subtree of a membrane, as the law reckons it -/
def mb_nx (p1 p2 p3 x : Int32) : Int32 := if x = 1 then p1 else if x = 2 then p2 else p3
def mb_sb (m p1 p2 p3 : Int32) : Nat → Int32 → Prop
  | 0, _ => False
  | k + 1, x => x = m ∨ (¬ x ≤ 0 ∧ x ≤ 3 ∧ mb_sb m p1 p2 p3 k (mb_nx p1 p2 p3 x))
theorem ml_5 {a : Nat} (h : a < 5) : (5 ≤ nI a) = False := eq_false (nI_ge (b := 5) h (by decide))
theorem ml_sub_t {m p1 p2 p3 : Int32} (K : post 1) : ∀ (k : Nat) (x : Int32) (i : Nat), k + i = 5 → mb_sb m p1 p2 p3 k x → wL_inSub_3 post m p1 p2 p3 (k + 1) x (nI i) := by
  intro k
  induction k with
  | zero => intro x i h s; exact s.elim
  | succ k ih =>
    intro x i hi s
    by_cases e : x = m
    · rw [wL_inSub_3]
      simp (disch := omega) only [ml_5, nI_clamp, vp_in_nI, nI_1, nI_add, mb_lt_t, mb_lt_f, mb_le_t, mb_le_f, mb_ne, mb_lt0, mb_le0, mb_m1, mb_m1l, mb_m1g, mb_m1n, mb_x2, mb_x4, mb_x32, mb_lt_4, mb_le_4, mb_ge_4, mb_gt_4, mb_le_3, mb_gt_3, mb_le_7, mb_gt_7, mb_lt_32, mb_ge_32, mb_lt_128, mb_ge_128, mb_ge_1, mb_lt_1, mb_ge_1f, mb_lt_1t, not_true, not_false_iff, false_implies, true_implies, true_and, and_true, forall_eq, forall_const, eq_self, mb_e10, e]
      exact K
    · obtain ⟨a, b, s'⟩ := s.resolve_left e
      have K' := ih _ (i + 1) (by omega) s'
      unfold mb_nx at K'
      by_cases e1 : x = 1
      · rw [if_pos e1] at K'
        rw [wL_inSub_3]
        simp (disch := omega) only [ml_5, nI_clamp, vp_in_nI, nI_1, nI_add, mb_lt_t, mb_lt_f, mb_le_t, mb_le_f, mb_ne, mb_lt0, mb_le0, mb_m1, mb_m1l, mb_m1g, mb_m1n, mb_x2, mb_x4, mb_x32, mb_lt_4, mb_le_4, mb_ge_4, mb_gt_4, mb_le_3, mb_gt_3, mb_le_7, mb_gt_7, mb_lt_32, mb_ge_32, mb_lt_128, mb_ge_128, mb_ge_1, mb_lt_1, mb_ge_1f, mb_lt_1t, not_true, not_false_iff, false_implies, true_implies, true_and, and_true, forall_eq, forall_const, eq_self, mb_e10, e, a, b]
        refine br_t e1 ?_
        exact K'
      · rw [if_neg e1] at K'
        by_cases e2 : x = 2
        · rw [if_pos e2] at K'
          rw [wL_inSub_3]
          simp (disch := omega) only [ml_5, nI_clamp, vp_in_nI, nI_1, nI_add, mb_lt_t, mb_lt_f, mb_le_t, mb_le_f, mb_ne, mb_lt0, mb_le0, mb_m1, mb_m1l, mb_m1g, mb_m1n, mb_x2, mb_x4, mb_x32, mb_lt_4, mb_le_4, mb_ge_4, mb_gt_4, mb_le_3, mb_gt_3, mb_le_7, mb_gt_7, mb_lt_32, mb_ge_32, mb_lt_128, mb_ge_128, mb_ge_1, mb_lt_1, mb_ge_1f, mb_lt_1t, not_true, not_false_iff, false_implies, true_implies, true_and, and_true, forall_eq, forall_const, eq_self, mb_e10, e, a, b]
          refine br_f e1 (br_t e2 ?_)
          exact K'
        · rw [if_neg e2] at K'
          rw [wL_inSub_3]
          simp (disch := omega) only [ml_5, nI_clamp, vp_in_nI, nI_1, nI_add, mb_lt_t, mb_lt_f, mb_le_t, mb_le_f, mb_ne, mb_lt0, mb_le0, mb_m1, mb_m1l, mb_m1g, mb_m1n, mb_x2, mb_x4, mb_x32, mb_lt_4, mb_le_4, mb_ge_4, mb_gt_4, mb_le_3, mb_gt_3, mb_le_7, mb_gt_7, mb_lt_32, mb_ge_32, mb_lt_128, mb_ge_128, mb_ge_1, mb_lt_1, mb_ge_1f, mb_lt_1t, not_true, not_false_iff, false_implies, true_implies, true_and, and_true, forall_eq, forall_const, eq_self, mb_e10, e, a, b]
          refine br_f e1 (br_f e2 ?_)
          exact K'
theorem ml_sub_f {m p1 p2 p3 : Int32} (K : post 0) : ∀ (k : Nat) (x : Int32) (i : Nat), k + i = 5 → ¬ mb_sb m p1 p2 p3 k x → wL_inSub_3 post m p1 p2 p3 (k + 1) x (nI i) := by
  intro k
  induction k with
  | zero =>
    intro x i h s
    have e : i = 5 := by omega
    subst e
    exact br_t (by decide) K
  | succ k ih =>
    intro x i hi s
    have e : ¬ x = m := fun z => s (Or.inl z)
    by_cases a : x ≤ 0
    · rw [wL_inSub_3]
      simp (disch := omega) only [ml_5, nI_clamp, vp_in_nI, nI_1, nI_add, mb_lt_t, mb_lt_f, mb_le_t, mb_le_f, mb_ne, mb_lt0, mb_le0, mb_m1, mb_m1l, mb_m1g, mb_m1n, mb_x2, mb_x4, mb_x32, mb_lt_4, mb_le_4, mb_ge_4, mb_gt_4, mb_le_3, mb_gt_3, mb_le_7, mb_gt_7, mb_lt_32, mb_ge_32, mb_lt_128, mb_ge_128, mb_ge_1, mb_lt_1, mb_ge_1f, mb_lt_1t, not_true, not_false_iff, false_implies, true_implies, true_and, and_true, forall_eq, forall_const, eq_self, mb_e10, e, a]
      exact K
    · by_cases b : x ≤ 3
      · have s' : ¬ mb_sb m p1 p2 p3 k (mb_nx p1 p2 p3 x) := fun z => s (Or.inr ⟨a, b, z⟩)
        have K' := ih _ (i + 1) (by omega) s'
        unfold mb_nx at K'
        by_cases e1 : x = 1
        · rw [if_pos e1] at K'
          rw [wL_inSub_3]
          simp (disch := omega) only [ml_5, nI_clamp, vp_in_nI, nI_1, nI_add, mb_lt_t, mb_lt_f, mb_le_t, mb_le_f, mb_ne, mb_lt0, mb_le0, mb_m1, mb_m1l, mb_m1g, mb_m1n, mb_x2, mb_x4, mb_x32, mb_lt_4, mb_le_4, mb_ge_4, mb_gt_4, mb_le_3, mb_gt_3, mb_le_7, mb_gt_7, mb_lt_32, mb_ge_32, mb_lt_128, mb_ge_128, mb_ge_1, mb_lt_1, mb_ge_1f, mb_lt_1t, not_true, not_false_iff, false_implies, true_implies, true_and, and_true, forall_eq, forall_const, eq_self, mb_e10, e, a, b]
          refine br_t e1 ?_
          exact K'
        · rw [if_neg e1] at K'
          by_cases e2 : x = 2
          · rw [if_pos e2] at K'
            rw [wL_inSub_3]
            simp (disch := omega) only [ml_5, nI_clamp, vp_in_nI, nI_1, nI_add, mb_lt_t, mb_lt_f, mb_le_t, mb_le_f, mb_ne, mb_lt0, mb_le0, mb_m1, mb_m1l, mb_m1g, mb_m1n, mb_x2, mb_x4, mb_x32, mb_lt_4, mb_le_4, mb_ge_4, mb_gt_4, mb_le_3, mb_gt_3, mb_le_7, mb_gt_7, mb_lt_32, mb_ge_32, mb_lt_128, mb_ge_128, mb_ge_1, mb_lt_1, mb_ge_1f, mb_lt_1t, not_true, not_false_iff, false_implies, true_implies, true_and, and_true, forall_eq, forall_const, eq_self, mb_e10, e, a, b]
            refine br_f e1 (br_t e2 ?_)
            exact K'
          · rw [if_neg e2] at K'
            rw [wL_inSub_3]
            simp (disch := omega) only [ml_5, nI_clamp, vp_in_nI, nI_1, nI_add, mb_lt_t, mb_lt_f, mb_le_t, mb_le_f, mb_ne, mb_lt0, mb_le0, mb_m1, mb_m1l, mb_m1g, mb_m1n, mb_x2, mb_x4, mb_x32, mb_lt_4, mb_le_4, mb_ge_4, mb_gt_4, mb_le_3, mb_gt_3, mb_le_7, mb_gt_7, mb_lt_32, mb_ge_32, mb_lt_128, mb_ge_128, mb_ge_1, mb_lt_1, mb_ge_1f, mb_lt_1t, not_true, not_false_iff, false_implies, true_implies, true_and, and_true, forall_eq, forall_const, eq_self, mb_e10, e, a, b]
            refine br_f e1 (br_f e2 ?_)
            exact K'
      · rw [wL_inSub_3]
        simp (disch := omega) only [ml_5, nI_clamp, vp_in_nI, nI_1, nI_add, mb_lt_t, mb_lt_f, mb_le_t, mb_le_f, mb_ne, mb_lt0, mb_le0, mb_m1, mb_m1l, mb_m1g, mb_m1n, mb_x2, mb_x4, mb_x32, mb_lt_4, mb_le_4, mb_ge_4, mb_gt_4, mb_le_3, mb_gt_3, mb_le_7, mb_gt_7, mb_lt_32, mb_ge_32, mb_lt_128, mb_ge_128, mb_ge_1, mb_lt_1, mb_ge_1f, mb_lt_1t, not_true, not_false_iff, false_implies, true_implies, true_and, and_true, forall_eq, forall_const, eq_self, mb_e10, e, a, b]
        exact K
/-- both answers of inSub at once -/
theorem ml_sub {m p1 p2 p3 x : Int32} (K1 : mb_sb m p1 p2 p3 5 x → post 1) (K0 : ¬ mb_sb m p1 p2 p3 5 x → post 0) : wpL_inSub post () x m p1 p2 p3 := by
  rcases Classical.em (mb_sb m p1 p2 p3 5 x) with s | s
  · exact ⟨6, ml_sub_t (K1 s) 5 x 0 (by omega) s⟩
  · exact ⟨6, ml_sub_f (K0 s) 5 x 0 (by omega) s⟩
theorem mb_sb_up {m p1 p2 p3 : Int32} : ∀ (k : Nat) (x : Int32), mb_sb m p1 p2 p3 k x → mb_sb m p1 p2 p3 (k + 1) x := by
  intro k
  induction k with
  | zero => intro x s; exact s.elim
  | succ k ih =>
    intro x s
    rcases s with e | ⟨a, b, s⟩
    · exact Or.inl e
    · exact Or.inr ⟨a, b, ih _ s⟩
def mb_pp (nd : Nat) (par : Nat → Int32) (p1 p2 p3 : Int32) : Prop := (1 < nd → p1 = par 1) ∧ (2 < nd → p2 = par 2) ∧ (3 < nd → p3 = par 3)
theorem mb_nx_p {nd : Nat} {par : Nat → Int32} {p1 p2 p3 : Int32} (h : mb_pp nd par p1 p2 p3) (hnd : nd ≤ 4) {x : Nat} (h1 : 1 ≤ x) (hx : x < nd) : mb_nx p1 p2 p3 (nI x) = par x := by
  have z : x = 1 ∨ x = 2 ∨ x = 3 := by omega
  rcases z with rfl | rfl | rfl
  · exact (if_pos (by decide)).trans (h.1 hx)
  · exact (if_neg (by decide)).trans ((if_pos (by decide)).trans (h.2.1 hx))
  · exact (if_neg (by decide)).trans ((if_neg (by decide)).trans (h.2.2 hx))
theorem mb_sb_dn {nd m : Nat} {par : Nat → Int32} {p1 p2 p3 : Int32} (h : mb_pp nd par p1 p2 p3) (hP : mb_P nd par) (hnd : nd ≤ 4) (hm : 1 ≤ m) (hm4 : m < 4) : ∀ (j x : Nat), x ≤ j → x < nd → mb_sb (nI m) p1 p2 p3 (j + 1) (nI x) → mb_sb (nI m) p1 p2 p3 j (nI x) := by
  intro j
  induction j with
  | zero =>
    intro x hx hd s
    have e : x = 0 := by omega
    subst e
    rcases s with e | ⟨a, -⟩
    · have := (nI_eq (by omega) (by omega)).mp e
      omega
    · exact absurd (by decide) a
  | succ j ih =>
    intro x hx hd s
    rcases s with e | ⟨a, b, s⟩
    · exact Or.inl e
    · have h1 : 1 ≤ x := by
        by_cases z : x = 0
        · subst z; exact absurd (by decide) a
        · omega
      obtain ⟨y, hy, ey⟩ := hP.2 x h1 hd
      rw [mb_nx_p h hnd h1 hd, ey] at s
      refine Or.inr ⟨a, b, ?_⟩
      rw [mb_nx_p h hnd h1 hd, ey]
      exact ih y (by omega) (by omega) s
/-- a revoked membrane closes its subtree -/
theorem mb_cls {nd m : Nat} {par rev : Nat → Int32} {p1 p2 p3 : Int32} (h : mb_pp nd par p1 p2 p3) (hP : mb_P nd par) (hnd : nd ≤ 4) (hm : 1 ≤ m) (hm4 : m < nd) (rv : ¬ rev m = 0) : mb_cl par rev nd (mb_sb (nI m) p1 p2 p3 5) := by
  intro x y hx hy a s
  rcases a with a | a
  · -- y is x's parent
    have h1 : 1 ≤ x := by
      by_cases z : x = 0
      · subst z; rw [hP.1] at a; exact absurd a.symm (mb_n1 (by omega))
      · omega
    obtain ⟨y', hy', ey⟩ := hP.2 x h1 hx
    have e : y' = y := (nI_eq (by omega) (by omega)).mp (ey.symm.trans a)
    subst e
    rcases s with e | ⟨-, -, s⟩
    · have e2 : x = m := (nI_eq (by omega) (by omega)).mp e
      refine Or.inl ?_
      have emx : mb_mx x y' = x := if_pos hy'
      rw [emx, e2]; exact rv
    · rw [mb_nx_p h hnd h1 hx, a] at s
      exact Or.inr (mb_sb_up 4 _ s)
  · -- x is y's parent
    have h1 : 1 ≤ y := by
      by_cases z : y = 0
      · subst z; rw [hP.1] at a; exact absurd a.symm (mb_n1 (by omega))
      · omega
    obtain ⟨x', hx', ex⟩ := hP.2 y h1 hy
    have e : x' = x := (nI_eq (by omega) (by omega)).mp (ex.symm.trans a)
    subst e
    refine Or.inr (Or.inr ⟨?_, ?_, ?_⟩)
    · exact nI_nle h1 (by omega)
    · exact nI_le (b := 3) (by omega) (by decide)
    · rw [mb_nx_p h hnd h1 hy, a]
      exact mb_sb_dn h hP hnd hm (by omega) 4 x' (by omega) hx s
end
