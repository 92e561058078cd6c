section
def i_Rel (_ : Nat) (u : SX) (v : SY) : Prop := ∃ (n p nd c : Nat) (par rev st pcs regs plen pop px py kd hm lk ht sl path hx he : Nat → Int32) (flt : Int32),
  u = (nI n, nI p, nI nd, nI c, par, rev, st, pcs, regs, plen, pop, px, py, kd, hm, lk, ht, sl, path) ∧ v = (nI n, nI p, nI nd, nI c, flt, par, rev, regs, pop, px, py, plen, pcs, st, kd, hm, lk, mb_ev sl, mb_od sl, ht, hx, he) ∧ mb_I n p nd c par rev st pcs regs plen pop px py kd hm lk sl
theorem i_up {k : Nat} {u : SX} {v : SY} (h : i_Rel k u v) : i_Rel (k + 5) u v := h
variable {n p nd c : Nat} {par rev st pcs regs plen pop px py kd hm lk ht sl path hx he : Nat → Int32} {flt : Int32}
theorem mb_i {k : Nat} (h : mb_I n p nd c par rev st pcs regs plen pop px py kd hm lk sl) : i_Rel k (nI n, nI p, nI nd, nI c, par, rev, st, pcs, regs, plen, pop, px, py, kd, hm, lk, ht, sl, path) (nI n, nI p, nI nd, nI c, flt, par, rev, regs, pop, px, py, plen, pcs, st, kd, hm, lk, mb_ev sl, mb_od sl, ht, hx, he) :=
  ⟨n, p, nd, c, par, rev, st, pcs, regs, plen, pop, px, py, kd, hm, lk, ht, sl, path, hx, he, flt, rfl, rfl, h⟩
/-- a register's number, an op, a membrane's number -/
theorem mb_ix4 (x : Int32) : (x < 0 ∧ ¬ 0 ≤ x) ∨ (¬ x < 0 ∧ 0 ≤ x ∧ 4 ≤ x ∧ ¬ x < 4 ∧ ¬ x ≤ 3 ∧ 3 < x) ∨ ∃ j : Nat, j < 4 ∧ x = nI j := by
  rcases mb_ix x (n := 4) (by decide) with h | ⟨a, b, e, f⟩ | h
  · exact Or.inl h
  · have g : (3 : Int32) < x := Int32.lt_of_lt_of_le (by decide) e
    exact Or.inr (Or.inl ⟨a, b, e, f, Int32.not_le.mpr g, g⟩)
  · exact Or.inr (Or.inr h)
theorem mb_ix8 (x : Int32) : (x < 0 ∧ ¬ 0 ≤ x) ∨ (¬ x < 0 ∧ 0 ≤ x ∧ ¬ x ≤ 7 ∧ 7 < x) ∨ ∃ j : Nat, j < 8 ∧ x = nI j := by
  rcases mb_ix x (n := 8) (by decide) with h | ⟨a, b, e, f⟩ | h
  · exact Or.inl h
  · have g : (7 : Int32) < x := Int32.lt_of_lt_of_le (by decide) e
    exact Or.inr (Or.inl ⟨a, b, Int32.not_le.mpr g, g⟩)
  · exact Or.inr (Or.inr h)
theorem mb_ixm (x : Int32) {n : Nat} (hn : n < 2 ^ 31) : (x < 1) ∨ (¬ x < 1 ∧ nI n ≤ x ∧ ¬ x < nI n) ∨ ∃ j : Nat, 1 ≤ j ∧ j < n ∧ x = nI j := by
  rcases mb_ix x hn with ⟨h, -⟩ | ⟨a, b, e, f⟩ | ⟨j, hj, rfl⟩
  · exact Or.inl (Int32.lt_trans h (by decide))
  · by_cases z : x < 1
    · exact Or.inl z
    · exact Or.inr (Or.inl ⟨z, e, f⟩)
  · by_cases z : j = 0
    · subst z; exact Or.inl (by decide)
    · exact Or.inr (Or.inr ⟨j, by omega, hj, rfl⟩)
theorem i_vc_kind {k : Nat} {u : SX} {v : SY} (I : i_Rel k u v) (hk : k + 5 ≤ 2562) (v1 : Int32) : wpX_kind (fun r => wpY_kind (fun r' => r' = r ∧ i_Rel (k + 5) u v) v v1) u v1 := by
  obtain ⟨n, p, nd, c, par, rev, st, pcs, regs, plen, pop, px, py, kd, hm, lk, ht, sl, path, hx, he, flt, rfl, rfl, I⟩ := I
  obtain ⟨H, hn8, hp8, hp, hP, hF, hR, hG⟩ := id I
  have hn : n ≤ 32 := H.2.1
  have hcn : c ≤ n := H.1
  have hnd : nd ≤ 4 := H.2.2.2.1
  have hnd1 : 1 ≤ nd := H.2.2.1
  rcases mb_ix v1 (n := c) (by omega) with ⟨z1, z2⟩ | ⟨z1, z2, z3, z4⟩ | ⟨j, hj, rfl⟩
  · simp (disch := omega) only [wpX_kind, wpX_objectExists, wpY_kind, nI_clamp, vp_in_nI, nI_1, nI_add, mb_lt_t, mb_lt_f, mb_le_t, mb_le_f, mb_ne, mb_lt0, mb_le0, mb_m1, mb_m1l, mb_m1g, mb_m1n, mb_x2, mb_x4, mb_x32, mb_lt_4, mb_le_4, mb_ge_4, mb_gt_4, mb_le_3, mb_gt_3, mb_le_7, mb_gt_7, mb_lt_32, mb_ge_32, mb_lt_128, mb_ge_128, mb_ge_1, mb_lt_1, mb_ge_1f, mb_lt_1t, not_true, not_false_iff, false_implies, true_implies, true_and, and_true, forall_eq, forall_const, eq_self, mb_e10, z1, z2]
    exact mb_i I
  · simp (disch := omega) only [wpX_kind, wpX_objectExists, wpY_kind, nI_clamp, vp_in_nI, nI_1, nI_add, mb_lt_t, mb_lt_f, mb_le_t, mb_le_f, mb_ne, mb_lt0, mb_le0, mb_m1, mb_m1l, mb_m1g, mb_m1n, mb_x2, mb_x4, mb_x32, mb_lt_4, mb_le_4, mb_ge_4, mb_gt_4, mb_le_3, mb_gt_3, mb_le_7, mb_gt_7, mb_lt_32, mb_ge_32, mb_lt_128, mb_ge_128, mb_ge_1, mb_lt_1, mb_ge_1f, mb_lt_1t, not_true, not_false_iff, false_implies, true_implies, true_and, and_true, forall_eq, forall_const, eq_self, mb_e10, z1, z2, z3, z4]
    exact mb_i I
  · simp (disch := omega) only [wpX_kind, wpX_objectExists, wpY_kind, nI_clamp, vp_in_nI, nI_1, nI_add, mb_lt_t, mb_lt_f, mb_le_t, mb_le_f, mb_ne, mb_lt0, mb_le0, mb_m1, mb_m1l, mb_m1g, mb_m1n, mb_x2, mb_x4, mb_x32, mb_lt_4, mb_le_4, mb_ge_4, mb_gt_4, mb_le_3, mb_gt_3, mb_le_7, mb_gt_7, mb_lt_32, mb_ge_32, mb_lt_128, mb_ge_128, mb_ge_1, mb_lt_1, mb_ge_1f, mb_lt_1t, not_true, not_false_iff, false_implies, true_implies, true_and, and_true, forall_eq, forall_const, eq_self, mb_e10]
    exact mb_i I
theorem i_vc_home {k : Nat} {u : SX} {v : SY} (I : i_Rel k u v) (hk : k + 5 ≤ 2562) (v1 : Int32) : wpX_home (fun r => wpY_home (fun r' => r' = r ∧ i_Rel (k + 5) u v) v v1) u v1 := by
  obtain ⟨n, p, nd, c, par, rev, st, pcs, regs, plen, pop, px, py, kd, hm, lk, ht, sl, path, hx, he, flt, rfl, rfl, I⟩ := I
  obtain ⟨H, hn8, hp8, hp, hP, hF, hR, hG⟩ := id I
  have hn : n ≤ 32 := H.2.1
  have hcn : c ≤ n := H.1
  have hnd : nd ≤ 4 := H.2.2.2.1
  have hnd1 : 1 ≤ nd := H.2.2.1
  rcases mb_ix v1 (n := c) (by omega) with ⟨z1, z2⟩ | ⟨z1, z2, z3, z4⟩ | ⟨j, hj, rfl⟩
  · simp (disch := omega) only [wpX_home, wpX_objectExists, wpY_home, nI_clamp, vp_in_nI, nI_1, nI_add, mb_lt_t, mb_lt_f, mb_le_t, mb_le_f, mb_ne, mb_lt0, mb_le0, mb_m1, mb_m1l, mb_m1g, mb_m1n, mb_x2, mb_x4, mb_x32, mb_lt_4, mb_le_4, mb_ge_4, mb_gt_4, mb_le_3, mb_gt_3, mb_le_7, mb_gt_7, mb_lt_32, mb_ge_32, mb_lt_128, mb_ge_128, mb_ge_1, mb_lt_1, mb_ge_1f, mb_lt_1t, not_true, not_false_iff, false_implies, true_implies, true_and, and_true, forall_eq, forall_const, eq_self, mb_e10, z1, z2]
    exact mb_i I
  · simp (disch := omega) only [wpX_home, wpX_objectExists, wpY_home, nI_clamp, vp_in_nI, nI_1, nI_add, mb_lt_t, mb_lt_f, mb_le_t, mb_le_f, mb_ne, mb_lt0, mb_le0, mb_m1, mb_m1l, mb_m1g, mb_m1n, mb_x2, mb_x4, mb_x32, mb_lt_4, mb_le_4, mb_ge_4, mb_gt_4, mb_le_3, mb_gt_3, mb_le_7, mb_gt_7, mb_lt_32, mb_ge_32, mb_lt_128, mb_ge_128, mb_ge_1, mb_lt_1, mb_ge_1f, mb_lt_1t, not_true, not_false_iff, false_implies, true_implies, true_and, and_true, forall_eq, forall_const, eq_self, mb_e10, z1, z2, z3, z4]
    exact mb_i I
  · simp (disch := omega) only [wpX_home, wpX_objectExists, wpY_home, nI_clamp, vp_in_nI, nI_1, nI_add, mb_lt_t, mb_lt_f, mb_le_t, mb_le_f, mb_ne, mb_lt0, mb_le0, mb_m1, mb_m1l, mb_m1g, mb_m1n, mb_x2, mb_x4, mb_x32, mb_lt_4, mb_le_4, mb_ge_4, mb_gt_4, mb_le_3, mb_gt_3, mb_le_7, mb_gt_7, mb_lt_32, mb_ge_32, mb_lt_128, mb_ge_128, mb_ge_1, mb_lt_1, mb_ge_1f, mb_lt_1t, not_true, not_false_iff, false_implies, true_implies, true_and, and_true, forall_eq, forall_const, eq_self, mb_e10]
    exact mb_i I
theorem i_vc_link {k : Nat} {u : SX} {v : SY} (I : i_Rel k u v) (hk : k + 5 ≤ 2562) (v1 : Int32) : wpX_link (fun r => wpY_link (fun r' => r' = r ∧ i_Rel (k + 5) u v) v v1) u v1 := by
  obtain ⟨n, p, nd, c, par, rev, st, pcs, regs, plen, pop, px, py, kd, hm, lk, ht, sl, path, hx, he, flt, rfl, rfl, I⟩ := I
  obtain ⟨H, hn8, hp8, hp, hP, hF, hR, hG⟩ := id I
  have hn : n ≤ 32 := H.2.1
  have hcn : c ≤ n := H.1
  have hnd : nd ≤ 4 := H.2.2.2.1
  have hnd1 : 1 ≤ nd := H.2.2.1
  rcases mb_ix v1 (n := c) (by omega) with ⟨z1, z2⟩ | ⟨z1, z2, z3, z4⟩ | ⟨j, hj, rfl⟩
  · simp (disch := omega) only [wpX_link, wpX_objectExists, wpY_link, nI_clamp, vp_in_nI, nI_1, nI_add, mb_lt_t, mb_lt_f, mb_le_t, mb_le_f, mb_ne, mb_lt0, mb_le0, mb_m1, mb_m1l, mb_m1g, mb_m1n, mb_x2, mb_x4, mb_x32, mb_lt_4, mb_le_4, mb_ge_4, mb_gt_4, mb_le_3, mb_gt_3, mb_le_7, mb_gt_7, mb_lt_32, mb_ge_32, mb_lt_128, mb_ge_128, mb_ge_1, mb_lt_1, mb_ge_1f, mb_lt_1t, not_true, not_false_iff, false_implies, true_implies, true_and, and_true, forall_eq, forall_const, eq_self, mb_e10, z1, z2]
    exact mb_i I
  · simp (disch := omega) only [wpX_link, wpX_objectExists, wpY_link, nI_clamp, vp_in_nI, nI_1, nI_add, mb_lt_t, mb_lt_f, mb_le_t, mb_le_f, mb_ne, mb_lt0, mb_le0, mb_m1, mb_m1l, mb_m1g, mb_m1n, mb_x2, mb_x4, mb_x32, mb_lt_4, mb_le_4, mb_ge_4, mb_gt_4, mb_le_3, mb_gt_3, mb_le_7, mb_gt_7, mb_lt_32, mb_ge_32, mb_lt_128, mb_ge_128, mb_ge_1, mb_lt_1, mb_ge_1f, mb_lt_1t, not_true, not_false_iff, false_implies, true_implies, true_and, and_true, forall_eq, forall_const, eq_self, mb_e10, z1, z2, z3, z4]
    exact mb_i I
  · rcases (mb_H_ob H hj).2 with ⟨k1, l1⟩ | ⟨k1, -⟩ | ⟨k1, -⟩
    · simp (disch := omega) only [wpX_link, wpX_objectExists, wpY_link, nI_clamp, vp_in_nI, nI_1, nI_add, mb_lt_t, mb_lt_f, mb_le_t, mb_le_f, mb_ne, mb_lt0, mb_le0, mb_m1, mb_m1l, mb_m1g, mb_m1n, mb_x2, mb_x4, mb_x32, mb_lt_4, mb_le_4, mb_ge_4, mb_gt_4, mb_le_3, mb_gt_3, mb_le_7, mb_gt_7, mb_lt_32, mb_ge_32, mb_lt_128, mb_ge_128, mb_ge_1, mb_lt_1, mb_ge_1f, mb_lt_1t, not_true, not_false_iff, false_implies, true_implies, true_and, and_true, forall_eq, forall_const, eq_self, mb_e10, k1, l1]
      exact mb_i I
    · simp (disch := omega) only [wpX_link, wpX_objectExists, wpY_link, nI_clamp, vp_in_nI, nI_1, nI_add, mb_lt_t, mb_lt_f, mb_le_t, mb_le_f, mb_ne, mb_lt0, mb_le0, mb_m1, mb_m1l, mb_m1g, mb_m1n, mb_x2, mb_x4, mb_x32, mb_lt_4, mb_le_4, mb_ge_4, mb_gt_4, mb_le_3, mb_gt_3, mb_le_7, mb_gt_7, mb_lt_32, mb_ge_32, mb_lt_128, mb_ge_128, mb_ge_1, mb_lt_1, mb_ge_1f, mb_lt_1t, not_true, not_false_iff, false_implies, true_implies, true_and, and_true, forall_eq, forall_const, eq_self, mb_e10, mb_e01, mb_e02, mb_e03, mb_e04, mb_e05, mb_e06, mb_e07, mb_l00, mb_l02, mb_g50, mb_g60, mb_e10, mb_e12, mb_e13, mb_e14, mb_e15, mb_e16, mb_e17, mb_l10, mb_l12, mb_g51, mb_g61, mb_e20, mb_e21, mb_e23, mb_e24, mb_e25, mb_e26, mb_e27, mb_l20, mb_l22, mb_g52, mb_g62, mb_e30, mb_e31, mb_e32, mb_e34, mb_e35, mb_e36, mb_e37, mb_l30, mb_l32, mb_g53, mb_g63, mb_e40, mb_e41, mb_e42, mb_e43, mb_e45, mb_e46, mb_e47, mb_l40, mb_l42, mb_g54, mb_g64, mb_e50, mb_e51, mb_e52, mb_e53, mb_e54, mb_e56, mb_e57, mb_l50, mb_l52, mb_g55, mb_g65, mb_e60, mb_e61, mb_e62, mb_e63, mb_e64, mb_e65, mb_e67, mb_l60, mb_l62, mb_g56, mb_g66, mb_e70, mb_e71, mb_e72, mb_e73, mb_e74, mb_e75, mb_e76, mb_l70, mb_l72, mb_g57, mb_g67, k1]
      exact mb_i I
    · simp (disch := omega) only [wpX_link, wpX_objectExists, wpY_link, nI_clamp, vp_in_nI, nI_1, nI_add, mb_lt_t, mb_lt_f, mb_le_t, mb_le_f, mb_ne, mb_lt0, mb_le0, mb_m1, mb_m1l, mb_m1g, mb_m1n, mb_x2, mb_x4, mb_x32, mb_lt_4, mb_le_4, mb_ge_4, mb_gt_4, mb_le_3, mb_gt_3, mb_le_7, mb_gt_7, mb_lt_32, mb_ge_32, mb_lt_128, mb_ge_128, mb_ge_1, mb_lt_1, mb_ge_1f, mb_lt_1t, not_true, not_false_iff, false_implies, true_implies, true_and, and_true, forall_eq, forall_const, eq_self, mb_e10, mb_e01, mb_e02, mb_e03, mb_e04, mb_e05, mb_e06, mb_e07, mb_l00, mb_l02, mb_g50, mb_g60, mb_e10, mb_e12, mb_e13, mb_e14, mb_e15, mb_e16, mb_e17, mb_l10, mb_l12, mb_g51, mb_g61, mb_e20, mb_e21, mb_e23, mb_e24, mb_e25, mb_e26, mb_e27, mb_l20, mb_l22, mb_g52, mb_g62, mb_e30, mb_e31, mb_e32, mb_e34, mb_e35, mb_e36, mb_e37, mb_l30, mb_l32, mb_g53, mb_g63, mb_e40, mb_e41, mb_e42, mb_e43, mb_e45, mb_e46, mb_e47, mb_l40, mb_l42, mb_g54, mb_g64, mb_e50, mb_e51, mb_e52, mb_e53, mb_e54, mb_e56, mb_e57, mb_l50, mb_l52, mb_g55, mb_g65, mb_e60, mb_e61, mb_e62, mb_e63, mb_e64, mb_e65, mb_e67, mb_l60, mb_l62, mb_g56, mb_g66, mb_e70, mb_e71, mb_e72, mb_e73, mb_e74, mb_e75, mb_e76, mb_l70, mb_l72, mb_g57, mb_g67, k1]
      exact mb_i I
theorem i_vc_hits {k : Nat} {u : SX} {v : SY} (I : i_Rel k u v) (hk : k + 5 ≤ 2562) (v1 : Int32) : wpX_hits (fun r => wpY_hits (fun r' => r' = r ∧ i_Rel (k + 5) u v) v v1) u v1 := by
  obtain ⟨n, p, nd, c, par, rev, st, pcs, regs, plen, pop, px, py, kd, hm, lk, ht, sl, path, hx, he, flt, rfl, rfl, I⟩ := I
  obtain ⟨H, hn8, hp8, hp, hP, hF, hR, hG⟩ := id I
  have hn : n ≤ 32 := H.2.1
  have hcn : c ≤ n := H.1
  have hnd : nd ≤ 4 := H.2.2.2.1
  have hnd1 : 1 ≤ nd := H.2.2.1
  rcases mb_ix v1 (n := c) (by omega) with ⟨z1, z2⟩ | ⟨z1, z2, z3, z4⟩ | ⟨j, hj, rfl⟩
  · simp (disch := omega) only [wpX_hits, wpX_objectExists, wpY_hits, nI_clamp, vp_in_nI, nI_1, nI_add, mb_lt_t, mb_lt_f, mb_le_t, mb_le_f, mb_ne, mb_lt0, mb_le0, mb_m1, mb_m1l, mb_m1g, mb_m1n, mb_x2, mb_x4, mb_x32, mb_lt_4, mb_le_4, mb_ge_4, mb_gt_4, mb_le_3, mb_gt_3, mb_le_7, mb_gt_7, mb_lt_32, mb_ge_32, mb_lt_128, mb_ge_128, mb_ge_1, mb_lt_1, mb_ge_1f, mb_lt_1t, not_true, not_false_iff, false_implies, true_implies, true_and, and_true, forall_eq, forall_const, eq_self, mb_e10, z1, z2]
    exact mb_i I
  · simp (disch := omega) only [wpX_hits, wpX_objectExists, wpY_hits, nI_clamp, vp_in_nI, nI_1, nI_add, mb_lt_t, mb_lt_f, mb_le_t, mb_le_f, mb_ne, mb_lt0, mb_le0, mb_m1, mb_m1l, mb_m1g, mb_m1n, mb_x2, mb_x4, mb_x32, mb_lt_4, mb_le_4, mb_ge_4, mb_gt_4, mb_le_3, mb_gt_3, mb_le_7, mb_gt_7, mb_lt_32, mb_ge_32, mb_lt_128, mb_ge_128, mb_ge_1, mb_lt_1, mb_ge_1f, mb_lt_1t, not_true, not_false_iff, false_implies, true_implies, true_and, and_true, forall_eq, forall_const, eq_self, mb_e10, z1, z2, z3, z4]
    exact mb_i I
  · simp (disch := omega) only [wpX_hits, wpX_objectExists, wpY_hits, nI_clamp, vp_in_nI, nI_1, nI_add, mb_lt_t, mb_lt_f, mb_le_t, mb_le_f, mb_ne, mb_lt0, mb_le0, mb_m1, mb_m1l, mb_m1g, mb_m1n, mb_x2, mb_x4, mb_x32, mb_lt_4, mb_le_4, mb_ge_4, mb_gt_4, mb_le_3, mb_gt_3, mb_le_7, mb_gt_7, mb_lt_32, mb_ge_32, mb_lt_128, mb_ge_128, mb_ge_1, mb_lt_1, mb_ge_1f, mb_lt_1t, not_true, not_false_iff, false_implies, true_implies, true_and, and_true, forall_eq, forall_const, eq_self, mb_e10]
    exact mb_i I
theorem i_vc_status {k : Nat} {u : SX} {v : SY} (I : i_Rel k u v) (hk : k + 5 ≤ 2562) (v1 : Int32) : wpX_status (fun r => wpY_status (fun r' => r' = r ∧ i_Rel (k + 5) u v) v v1) u v1 := by
  obtain ⟨n, p, nd, c, par, rev, st, pcs, regs, plen, pop, px, py, kd, hm, lk, ht, sl, path, hx, he, flt, rfl, rfl, I⟩ := I
  obtain ⟨H, hn8, hp8, hp, hP, hF, hR, hG⟩ := id I
  have hn : n ≤ 32 := H.2.1
  have hcn : c ≤ n := H.1
  have hnd : nd ≤ 4 := H.2.2.2.1
  have hnd1 : 1 ≤ nd := H.2.2.1
  rcases mb_ix v1 (n := nd) (by omega) with ⟨z1, z2⟩ | ⟨z1, z2, z3, z4⟩ | ⟨j, hj, rfl⟩
  · simp (disch := omega) only [wpX_status, wpX_domainExists, wpY_status, nI_clamp, vp_in_nI, nI_1, nI_add, mb_lt_t, mb_lt_f, mb_le_t, mb_le_f, mb_ne, mb_lt0, mb_le0, mb_m1, mb_m1l, mb_m1g, mb_m1n, mb_x2, mb_x4, mb_x32, mb_lt_4, mb_le_4, mb_ge_4, mb_gt_4, mb_le_3, mb_gt_3, mb_le_7, mb_gt_7, mb_lt_32, mb_ge_32, mb_lt_128, mb_ge_128, mb_ge_1, mb_lt_1, mb_ge_1f, mb_lt_1t, not_true, not_false_iff, false_implies, true_implies, true_and, and_true, forall_eq, forall_const, eq_self, mb_e10, z1, z2]
    exact mb_i I
  · simp (disch := omega) only [wpX_status, wpX_domainExists, wpY_status, nI_clamp, vp_in_nI, nI_1, nI_add, mb_lt_t, mb_lt_f, mb_le_t, mb_le_f, mb_ne, mb_lt0, mb_le0, mb_m1, mb_m1l, mb_m1g, mb_m1n, mb_x2, mb_x4, mb_x32, mb_lt_4, mb_le_4, mb_ge_4, mb_gt_4, mb_le_3, mb_gt_3, mb_le_7, mb_gt_7, mb_lt_32, mb_ge_32, mb_lt_128, mb_ge_128, mb_ge_1, mb_lt_1, mb_ge_1f, mb_lt_1t, not_true, not_false_iff, false_implies, true_implies, true_and, and_true, forall_eq, forall_const, eq_self, mb_e10, z1, z2, z3, z4]
    exact mb_i I
  · simp (disch := omega) only [wpX_status, wpX_domainExists, wpY_status, nI_clamp, vp_in_nI, nI_1, nI_add, mb_lt_t, mb_lt_f, mb_le_t, mb_le_f, mb_ne, mb_lt0, mb_le0, mb_m1, mb_m1l, mb_m1g, mb_m1n, mb_x2, mb_x4, mb_x32, mb_lt_4, mb_le_4, mb_ge_4, mb_gt_4, mb_le_3, mb_gt_3, mb_le_7, mb_gt_7, mb_lt_32, mb_ge_32, mb_lt_128, mb_ge_128, mb_ge_1, mb_lt_1, mb_ge_1f, mb_lt_1t, not_true, not_false_iff, false_implies, true_implies, true_and, and_true, forall_eq, forall_const, eq_self, mb_e10]
    exact mb_i I
theorem i_vc_pc {k : Nat} {u : SX} {v : SY} (I : i_Rel k u v) (hk : k + 5 ≤ 2562) (v1 : Int32) : wpX_pc (fun r => wpY_pc (fun r' => r' = r ∧ i_Rel (k + 5) u v) v v1) u v1 := by
  obtain ⟨n, p, nd, c, par, rev, st, pcs, regs, plen, pop, px, py, kd, hm, lk, ht, sl, path, hx, he, flt, rfl, rfl, I⟩ := I
  obtain ⟨H, hn8, hp8, hp, hP, hF, hR, hG⟩ := id I
  have hn : n ≤ 32 := H.2.1
  have hcn : c ≤ n := H.1
  have hnd : nd ≤ 4 := H.2.2.2.1
  have hnd1 : 1 ≤ nd := H.2.2.1
  rcases mb_ix v1 (n := nd) (by omega) with ⟨z1, z2⟩ | ⟨z1, z2, z3, z4⟩ | ⟨j, hj, rfl⟩
  · simp (disch := omega) only [wpX_pc, wpX_domainExists, wpY_pc, nI_clamp, vp_in_nI, nI_1, nI_add, mb_lt_t, mb_lt_f, mb_le_t, mb_le_f, mb_ne, mb_lt0, mb_le0, mb_m1, mb_m1l, mb_m1g, mb_m1n, mb_x2, mb_x4, mb_x32, mb_lt_4, mb_le_4, mb_ge_4, mb_gt_4, mb_le_3, mb_gt_3, mb_le_7, mb_gt_7, mb_lt_32, mb_ge_32, mb_lt_128, mb_ge_128, mb_ge_1, mb_lt_1, mb_ge_1f, mb_lt_1t, not_true, not_false_iff, false_implies, true_implies, true_and, and_true, forall_eq, forall_const, eq_self, mb_e10, z1, z2]
    exact mb_i I
  · simp (disch := omega) only [wpX_pc, wpX_domainExists, wpY_pc, nI_clamp, vp_in_nI, nI_1, nI_add, mb_lt_t, mb_lt_f, mb_le_t, mb_le_f, mb_ne, mb_lt0, mb_le0, mb_m1, mb_m1l, mb_m1g, mb_m1n, mb_x2, mb_x4, mb_x32, mb_lt_4, mb_le_4, mb_ge_4, mb_gt_4, mb_le_3, mb_gt_3, mb_le_7, mb_gt_7, mb_lt_32, mb_ge_32, mb_lt_128, mb_ge_128, mb_ge_1, mb_lt_1, mb_ge_1f, mb_lt_1t, not_true, not_false_iff, false_implies, true_implies, true_and, and_true, forall_eq, forall_const, eq_self, mb_e10, z1, z2, z3, z4]
    exact mb_i I
  · simp (disch := omega) only [wpX_pc, wpX_domainExists, wpY_pc, nI_clamp, vp_in_nI, nI_1, nI_add, mb_lt_t, mb_lt_f, mb_le_t, mb_le_f, mb_ne, mb_lt0, mb_le0, mb_m1, mb_m1l, mb_m1g, mb_m1n, mb_x2, mb_x4, mb_x32, mb_lt_4, mb_le_4, mb_ge_4, mb_gt_4, mb_le_3, mb_gt_3, mb_le_7, mb_gt_7, mb_lt_32, mb_ge_32, mb_lt_128, mb_ge_128, mb_ge_1, mb_lt_1, mb_ge_1f, mb_lt_1t, not_true, not_false_iff, false_implies, true_implies, true_and, and_true, forall_eq, forall_const, eq_self, mb_e10]
    exact mb_i I
theorem i_vc_parent {k : Nat} {u : SX} {v : SY} (I : i_Rel k u v) (hk : k + 5 ≤ 2562) (v1 : Int32) : wpX_parent (fun r => wpY_parent (fun r' => r' = r ∧ i_Rel (k + 5) u v) v v1) u v1 := by
  obtain ⟨n, p, nd, c, par, rev, st, pcs, regs, plen, pop, px, py, kd, hm, lk, ht, sl, path, hx, he, flt, rfl, rfl, I⟩ := I
  obtain ⟨H, hn8, hp8, hp, hP, hF, hR, hG⟩ := id I
  have hn : n ≤ 32 := H.2.1
  have hcn : c ≤ n := H.1
  have hnd : nd ≤ 4 := H.2.2.2.1
  have hnd1 : 1 ≤ nd := H.2.2.1
  rcases mb_ix v1 (n := nd) (by omega) with ⟨z1, z2⟩ | ⟨z1, z2, z3, z4⟩ | ⟨j, hj, rfl⟩
  · simp (disch := omega) only [wpX_parent, wpX_domainExists, wpY_parent, nI_clamp, vp_in_nI, nI_1, nI_add, mb_lt_t, mb_lt_f, mb_le_t, mb_le_f, mb_ne, mb_lt0, mb_le0, mb_m1, mb_m1l, mb_m1g, mb_m1n, mb_x2, mb_x4, mb_x32, mb_lt_4, mb_le_4, mb_ge_4, mb_gt_4, mb_le_3, mb_gt_3, mb_le_7, mb_gt_7, mb_lt_32, mb_ge_32, mb_lt_128, mb_ge_128, mb_ge_1, mb_lt_1, mb_ge_1f, mb_lt_1t, not_true, not_false_iff, false_implies, true_implies, true_and, and_true, forall_eq, forall_const, eq_self, mb_e10, z1, z2]
    exact mb_i I
  · simp (disch := omega) only [wpX_parent, wpX_domainExists, wpY_parent, nI_clamp, vp_in_nI, nI_1, nI_add, mb_lt_t, mb_lt_f, mb_le_t, mb_le_f, mb_ne, mb_lt0, mb_le0, mb_m1, mb_m1l, mb_m1g, mb_m1n, mb_x2, mb_x4, mb_x32, mb_lt_4, mb_le_4, mb_ge_4, mb_gt_4, mb_le_3, mb_gt_3, mb_le_7, mb_gt_7, mb_lt_32, mb_ge_32, mb_lt_128, mb_ge_128, mb_ge_1, mb_lt_1, mb_ge_1f, mb_lt_1t, not_true, not_false_iff, false_implies, true_implies, true_and, and_true, forall_eq, forall_const, eq_self, mb_e10, z1, z2, z3, z4]
    exact mb_i I
  · by_cases e : j = 0
    · subst e
      have e0 := hP.1
      simp (disch := omega) only [wpX_parent, wpX_domainExists, wpY_parent, nI_clamp, vp_in_nI, nI_1, nI_add, mb_lt_t, mb_lt_f, mb_le_t, mb_le_f, mb_ne, mb_lt0, mb_le0, mb_m1, mb_m1l, mb_m1g, mb_m1n, mb_x2, mb_x4, mb_x32, mb_lt_4, mb_le_4, mb_ge_4, mb_gt_4, mb_le_3, mb_gt_3, mb_le_7, mb_gt_7, mb_lt_32, mb_ge_32, mb_lt_128, mb_ge_128, mb_ge_1, mb_lt_1, mb_ge_1f, mb_lt_1t, not_true, not_false_iff, false_implies, true_implies, true_and, and_true, forall_eq, forall_const, eq_self, mb_e10, nI_0, show (0 : Int32) < nI nd from nI_lt (a := 0) hj (by omega), show ¬ nI nd ≤ (0 : Int32) from nI_ge (a := 0) hj (by omega), show ¬ (0 : Int32) < 0 from by decide, show vp_in 0 4 from vp_in_nI (n := 0) (by omega) (by omega), show (0 : Int32).toNatClampNeg = 0 from rfl, e0]
      exact mb_i I
    · have e1 : ¬ nI j = 0 := nI_ne0 (by omega) (by omega)
      simp (disch := omega) only [wpX_parent, wpX_domainExists, wpY_parent, nI_clamp, vp_in_nI, nI_1, nI_add, mb_lt_t, mb_lt_f, mb_le_t, mb_le_f, mb_ne, mb_lt0, mb_le0, mb_m1, mb_m1l, mb_m1g, mb_m1n, mb_x2, mb_x4, mb_x32, mb_lt_4, mb_le_4, mb_ge_4, mb_gt_4, mb_le_3, mb_gt_3, mb_le_7, mb_gt_7, mb_lt_32, mb_ge_32, mb_lt_128, mb_ge_128, mb_ge_1, mb_lt_1, mb_ge_1f, mb_lt_1t, not_true, not_false_iff, false_implies, true_implies, true_and, and_true, forall_eq, forall_const, eq_self, mb_e10, e1]
      exact mb_i I
theorem i_vc_revoked {k : Nat} {u : SX} {v : SY} (I : i_Rel k u v) (hk : k + 5 ≤ 2562) (v1 : Int32) : wpX_revoked (fun r => wpY_revoked (fun r' => r' = r ∧ i_Rel (k + 5) u v) v v1) u v1 := by
  obtain ⟨n, p, nd, c, par, rev, st, pcs, regs, plen, pop, px, py, kd, hm, lk, ht, sl, path, hx, he, flt, rfl, rfl, I⟩ := I
  obtain ⟨H, hn8, hp8, hp, hP, hF, hR, hG⟩ := id I
  have hn : n ≤ 32 := H.2.1
  have hcn : c ≤ n := H.1
  have hnd : nd ≤ 4 := H.2.2.2.1
  have hnd1 : 1 ≤ nd := H.2.2.1
  rcases mb_ixm v1 (n := nd) (by omega) with z | ⟨z1, z2, z3⟩ | ⟨j, hj1, hj, rfl⟩
  · simp (disch := omega) only [wpX_revoked, wpX_membraneExists, wpY_revoked, nI_clamp, vp_in_nI, nI_1, nI_add, mb_lt_t, mb_lt_f, mb_le_t, mb_le_f, mb_ne, mb_lt0, mb_le0, mb_m1, mb_m1l, mb_m1g, mb_m1n, mb_x2, mb_x4, mb_x32, mb_lt_4, mb_le_4, mb_ge_4, mb_gt_4, mb_le_3, mb_gt_3, mb_le_7, mb_gt_7, mb_lt_32, mb_ge_32, mb_lt_128, mb_ge_128, mb_ge_1, mb_lt_1, mb_ge_1f, mb_lt_1t, not_true, not_false_iff, false_implies, true_implies, true_and, and_true, forall_eq, forall_const, eq_self, mb_e10, z]
    exact mb_i I
  · simp (disch := omega) only [wpX_revoked, wpX_membraneExists, wpY_revoked, nI_clamp, vp_in_nI, nI_1, nI_add, mb_lt_t, mb_lt_f, mb_le_t, mb_le_f, mb_ne, mb_lt0, mb_le0, mb_m1, mb_m1l, mb_m1g, mb_m1n, mb_x2, mb_x4, mb_x32, mb_lt_4, mb_le_4, mb_ge_4, mb_gt_4, mb_le_3, mb_gt_3, mb_le_7, mb_gt_7, mb_lt_32, mb_ge_32, mb_lt_128, mb_ge_128, mb_ge_1, mb_lt_1, mb_ge_1f, mb_lt_1t, not_true, not_false_iff, false_implies, true_implies, true_and, and_true, forall_eq, forall_const, eq_self, mb_e10, z1, z2, z3]
    exact mb_i I
  · by_cases r : rev j = 0
    · simp (disch := omega) only [wpX_revoked, wpX_membraneExists, wpY_revoked, nI_clamp, vp_in_nI, nI_1, nI_add, mb_lt_t, mb_lt_f, mb_le_t, mb_le_f, mb_ne, mb_lt0, mb_le0, mb_m1, mb_m1l, mb_m1g, mb_m1n, mb_x2, mb_x4, mb_x32, mb_lt_4, mb_le_4, mb_ge_4, mb_gt_4, mb_le_3, mb_gt_3, mb_le_7, mb_gt_7, mb_lt_32, mb_ge_32, mb_lt_128, mb_ge_128, mb_ge_1, mb_lt_1, mb_ge_1f, mb_lt_1t, not_true, not_false_iff, false_implies, true_implies, true_and, and_true, forall_eq, forall_const, eq_self, mb_e10, r]
      exact mb_i I
    · simp (disch := omega) only [wpX_revoked, wpX_membraneExists, wpY_revoked, nI_clamp, vp_in_nI, nI_1, nI_add, mb_lt_t, mb_lt_f, mb_le_t, mb_le_f, mb_ne, mb_lt0, mb_le0, mb_m1, mb_m1l, mb_m1g, mb_m1n, mb_x2, mb_x4, mb_x32, mb_lt_4, mb_le_4, mb_ge_4, mb_gt_4, mb_le_3, mb_gt_3, mb_le_7, mb_gt_7, mb_lt_32, mb_ge_32, mb_lt_128, mb_ge_128, mb_ge_1, mb_lt_1, mb_ge_1f, mb_lt_1t, not_true, not_false_iff, false_implies, true_implies, true_and, and_true, forall_eq, forall_const, eq_self, mb_e10, r]
      exact mb_i I
theorem i_vc_reg {k : Nat} {u : SX} {v : SY} (I : i_Rel k u v) (hk : k + 5 ≤ 2562) (v1 : Int32) (v2 : Int32) : wpX_reg (fun r => wpY_reg (fun r' => r' = r ∧ i_Rel (k + 5) u v) v v1 v2) u v1 v2 := by
  obtain ⟨n, p, nd, c, par, rev, st, pcs, regs, plen, pop, px, py, kd, hm, lk, ht, sl, path, hx, he, flt, rfl, rfl, I⟩ := I
  obtain ⟨H, hn8, hp8, hp, hP, hF, hR, hG⟩ := id I
  have hn : n ≤ 32 := H.2.1
  have hcn : c ≤ n := H.1
  have hnd : nd ≤ 4 := H.2.2.2.1
  have hnd1 : 1 ≤ nd := H.2.2.1
  rcases mb_ix v1 (n := nd) (by omega) with ⟨z1, z2⟩ | ⟨z1, z2, z3, z4⟩ | ⟨j, hj, rfl⟩
  · simp (disch := omega) only [wpX_reg, wpX_domainExists, wpX_isRegister, wpY_reg, nI_clamp, vp_in_nI, nI_1, nI_add, mb_lt_t, mb_lt_f, mb_le_t, mb_le_f, mb_ne, mb_lt0, mb_le0, mb_m1, mb_m1l, mb_m1g, mb_m1n, mb_x2, mb_x4, mb_x32, mb_lt_4, mb_le_4, mb_ge_4, mb_gt_4, mb_le_3, mb_gt_3, mb_le_7, mb_gt_7, mb_lt_32, mb_ge_32, mb_lt_128, mb_ge_128, mb_ge_1, mb_lt_1, mb_ge_1f, mb_lt_1t, not_true, not_false_iff, false_implies, true_implies, true_and, and_true, forall_eq, forall_const, eq_self, mb_e10, z1, z2]
    exact mb_i I
  · simp (disch := omega) only [wpX_reg, wpX_domainExists, wpX_isRegister, wpY_reg, nI_clamp, vp_in_nI, nI_1, nI_add, mb_lt_t, mb_lt_f, mb_le_t, mb_le_f, mb_ne, mb_lt0, mb_le0, mb_m1, mb_m1l, mb_m1g, mb_m1n, mb_x2, mb_x4, mb_x32, mb_lt_4, mb_le_4, mb_ge_4, mb_gt_4, mb_le_3, mb_gt_3, mb_le_7, mb_gt_7, mb_lt_32, mb_ge_32, mb_lt_128, mb_ge_128, mb_ge_1, mb_lt_1, mb_ge_1f, mb_lt_1t, not_true, not_false_iff, false_implies, true_implies, true_and, and_true, forall_eq, forall_const, eq_self, mb_e10, z1, z2, z3, z4]
    exact mb_i I
  · rcases mb_ix4 v2 with ⟨z1, z2⟩ | ⟨z1, z2, z3, z4, z5, z6⟩ | ⟨r, hr, rfl⟩
    · simp (disch := omega) only [wpX_reg, wpX_domainExists, wpX_isRegister, wpY_reg, nI_clamp, vp_in_nI, nI_1, nI_add, mb_lt_t, mb_lt_f, mb_le_t, mb_le_f, mb_ne, mb_lt0, mb_le0, mb_m1, mb_m1l, mb_m1g, mb_m1n, mb_x2, mb_x4, mb_x32, mb_lt_4, mb_le_4, mb_ge_4, mb_gt_4, mb_le_3, mb_gt_3, mb_le_7, mb_gt_7, mb_lt_32, mb_ge_32, mb_lt_128, mb_ge_128, mb_ge_1, mb_lt_1, mb_ge_1f, mb_lt_1t, not_true, not_false_iff, false_implies, true_implies, true_and, and_true, forall_eq, forall_const, eq_self, mb_e10, z1, z2]
      exact mb_i I
    · simp (disch := omega) only [wpX_reg, wpX_domainExists, wpX_isRegister, wpY_reg, nI_clamp, vp_in_nI, nI_1, nI_add, mb_lt_t, mb_lt_f, mb_le_t, mb_le_f, mb_ne, mb_lt0, mb_le0, mb_m1, mb_m1l, mb_m1g, mb_m1n, mb_x2, mb_x4, mb_x32, mb_lt_4, mb_le_4, mb_ge_4, mb_gt_4, mb_le_3, mb_gt_3, mb_le_7, mb_gt_7, mb_lt_32, mb_ge_32, mb_lt_128, mb_ge_128, mb_ge_1, mb_lt_1, mb_ge_1f, mb_lt_1t, not_true, not_false_iff, false_implies, true_implies, true_and, and_true, forall_eq, forall_const, eq_self, mb_e10, z1, z2, z3, z4, z5, z6]
      exact mb_i I
    · simp (disch := omega) only [wpX_reg, wpX_domainExists, wpX_isRegister, wpY_reg, nI_clamp, vp_in_nI, nI_1, nI_add, mb_lt_t, mb_lt_f, mb_le_t, mb_le_f, mb_ne, mb_lt0, mb_le0, mb_m1, mb_m1l, mb_m1g, mb_m1n, mb_x2, mb_x4, mb_x32, mb_lt_4, mb_le_4, mb_ge_4, mb_gt_4, mb_le_3, mb_gt_3, mb_le_7, mb_gt_7, mb_lt_32, mb_ge_32, mb_lt_128, mb_ge_128, mb_ge_1, mb_lt_1, mb_ge_1f, mb_lt_1t, not_true, not_false_iff, false_implies, true_implies, true_and, and_true, forall_eq, forall_const, eq_self, mb_e10]
      exact mb_i I
theorem i_vc_slot {k : Nat} {u : SX} {v : SY} (I : i_Rel k u v) (hk : k + 5 ≤ 2562) (v1 : Int32) (v2 : Int32) : wpX_slot (fun r => wpY_slot (fun r' => r' = r ∧ i_Rel (k + 5) u v) v v1 v2) u v1 v2 := by
  obtain ⟨n, p, nd, c, par, rev, st, pcs, regs, plen, pop, px, py, kd, hm, lk, ht, sl, path, hx, he, flt, rfl, rfl, I⟩ := I
  obtain ⟨H, hn8, hp8, hp, hP, hF, hR, hG⟩ := id I
  have hn : n ≤ 32 := H.2.1
  have hcn : c ≤ n := H.1
  have hnd : nd ≤ 4 := H.2.2.2.1
  have hnd1 : 1 ≤ nd := H.2.2.1
  rcases mb_ix v1 (n := c) (by omega) with ⟨z1, z2⟩ | ⟨z1, z2, z3, z4⟩ | ⟨j, hj, rfl⟩
  · simp (disch := omega) only [wpX_slot, wpX_objectExists, wpY_slot, nI_clamp, vp_in_nI, nI_1, nI_add, mb_lt_t, mb_lt_f, mb_le_t, mb_le_f, mb_ne, mb_lt0, mb_le0, mb_m1, mb_m1l, mb_m1g, mb_m1n, mb_x2, mb_x4, mb_x32, mb_lt_4, mb_le_4, mb_ge_4, mb_gt_4, mb_le_3, mb_gt_3, mb_le_7, mb_gt_7, mb_lt_32, mb_ge_32, mb_lt_128, mb_ge_128, mb_ge_1, mb_lt_1, mb_ge_1f, mb_lt_1t, not_true, not_false_iff, false_implies, true_implies, true_and, and_true, forall_eq, forall_const, eq_self, mb_e10, z1, z2]
    exact mb_i I
  · simp (disch := omega) only [wpX_slot, wpX_objectExists, wpY_slot, nI_clamp, vp_in_nI, nI_1, nI_add, mb_lt_t, mb_lt_f, mb_le_t, mb_le_f, mb_ne, mb_lt0, mb_le0, mb_m1, mb_m1l, mb_m1g, mb_m1n, mb_x2, mb_x4, mb_x32, mb_lt_4, mb_le_4, mb_ge_4, mb_gt_4, mb_le_3, mb_gt_3, mb_le_7, mb_gt_7, mb_lt_32, mb_ge_32, mb_lt_128, mb_ge_128, mb_ge_1, mb_lt_1, mb_ge_1f, mb_lt_1t, not_true, not_false_iff, false_implies, true_implies, true_and, and_true, forall_eq, forall_const, eq_self, mb_e10, z1, z2, z3, z4]
    exact mb_i I
  · by_cases k1 : kd j = 1
    · by_cases w0 : v2 = 0
      · subst w0
        simp (disch := omega) only [wpX_slot, wpX_objectExists, wpY_slot, nI_clamp, vp_in_nI, nI_1, nI_add, mb_lt_t, mb_lt_f, mb_le_t, mb_le_f, mb_ne, mb_lt0, mb_le0, mb_m1, mb_m1l, mb_m1g, mb_m1n, mb_x2, mb_x4, mb_x32, mb_lt_4, mb_le_4, mb_ge_4, mb_gt_4, mb_le_3, mb_gt_3, mb_le_7, mb_gt_7, mb_lt_32, mb_ge_32, mb_lt_128, mb_ge_128, mb_ge_1, mb_lt_1, mb_ge_1f, mb_lt_1t, not_true, not_false_iff, false_implies, true_implies, true_and, and_true, forall_eq, forall_const, eq_self, mb_e10, mb_e01, mb_e02, mb_e03, mb_e04, mb_e05, mb_e06, mb_e07, mb_l00, mb_l02, mb_g50, mb_g60, mb_e10, mb_e12, mb_e13, mb_e14, mb_e15, mb_e16, mb_e17, mb_l10, mb_l12, mb_g51, mb_g61, mb_e20, mb_e21, mb_e23, mb_e24, mb_e25, mb_e26, mb_e27, mb_l20, mb_l22, mb_g52, mb_g62, mb_e30, mb_e31, mb_e32, mb_e34, mb_e35, mb_e36, mb_e37, mb_l30, mb_l32, mb_g53, mb_g63, mb_e40, mb_e41, mb_e42, mb_e43, mb_e45, mb_e46, mb_e47, mb_l40, mb_l42, mb_g54, mb_g64, mb_e50, mb_e51, mb_e52, mb_e53, mb_e54, mb_e56, mb_e57, mb_l50, mb_l52, mb_g55, mb_g65, mb_e60, mb_e61, mb_e62, mb_e63, mb_e64, mb_e65, mb_e67, mb_l60, mb_l62, mb_g56, mb_g66, mb_e70, mb_e71, mb_e72, mb_e73, mb_e74, mb_e75, mb_e76, mb_l70, mb_l72, mb_g57, mb_g67, k1, Int32.add_zero, mb_ev_ap]
        exact mb_i I
      · by_cases w1 : v2 = 1
        · subst w1
          simp (disch := omega) only [wpX_slot, wpX_objectExists, wpY_slot, nI_clamp, vp_in_nI, nI_1, nI_add, mb_lt_t, mb_lt_f, mb_le_t, mb_le_f, mb_ne, mb_lt0, mb_le0, mb_m1, mb_m1l, mb_m1g, mb_m1n, mb_x2, mb_x4, mb_x32, mb_lt_4, mb_le_4, mb_ge_4, mb_gt_4, mb_le_3, mb_gt_3, mb_le_7, mb_gt_7, mb_lt_32, mb_ge_32, mb_lt_128, mb_ge_128, mb_ge_1, mb_lt_1, mb_ge_1f, mb_lt_1t, not_true, not_false_iff, false_implies, true_implies, true_and, and_true, forall_eq, forall_const, eq_self, mb_e10, mb_e01, mb_e02, mb_e03, mb_e04, mb_e05, mb_e06, mb_e07, mb_l00, mb_l02, mb_g50, mb_g60, mb_e10, mb_e12, mb_e13, mb_e14, mb_e15, mb_e16, mb_e17, mb_l10, mb_l12, mb_g51, mb_g61, mb_e20, mb_e21, mb_e23, mb_e24, mb_e25, mb_e26, mb_e27, mb_l20, mb_l22, mb_g52, mb_g62, mb_e30, mb_e31, mb_e32, mb_e34, mb_e35, mb_e36, mb_e37, mb_l30, mb_l32, mb_g53, mb_g63, mb_e40, mb_e41, mb_e42, mb_e43, mb_e45, mb_e46, mb_e47, mb_l40, mb_l42, mb_g54, mb_g64, mb_e50, mb_e51, mb_e52, mb_e53, mb_e54, mb_e56, mb_e57, mb_l50, mb_l52, mb_g55, mb_g65, mb_e60, mb_e61, mb_e62, mb_e63, mb_e64, mb_e65, mb_e67, mb_l60, mb_l62, mb_g56, mb_g66, mb_e70, mb_e71, mb_e72, mb_e73, mb_e74, mb_e75, mb_e76, mb_l70, mb_l72, mb_g57, mb_g67, k1, mb_od_ap]
          exact mb_i I
        · by_cases w2 : v2 < 0
          · simp (disch := omega) only [wpX_slot, wpX_objectExists, wpY_slot, nI_clamp, vp_in_nI, nI_1, nI_add, mb_lt_t, mb_lt_f, mb_le_t, mb_le_f, mb_ne, mb_lt0, mb_le0, mb_m1, mb_m1l, mb_m1g, mb_m1n, mb_x2, mb_x4, mb_x32, mb_lt_4, mb_le_4, mb_ge_4, mb_gt_4, mb_le_3, mb_gt_3, mb_le_7, mb_gt_7, mb_lt_32, mb_ge_32, mb_lt_128, mb_ge_128, mb_ge_1, mb_lt_1, mb_ge_1f, mb_lt_1t, not_true, not_false_iff, false_implies, true_implies, true_and, and_true, forall_eq, forall_const, eq_self, mb_e10, k1, w0, w1, w2]
            exact mb_i I
          · have w3 : ¬ v2 < 2 := by
              intro z
              obtain ⟨q, hq, rfl⟩ := nI_of w2
              have hq2 : q < 2 := (nI_ltI hq (by omega)).mp z
              have : q = 0 ∨ q = 1 := by omega
              rcases this with rfl | rfl
              · exact w0 rfl
              · exact w1 rfl
            simp (disch := omega) only [wpX_slot, wpX_objectExists, wpY_slot, nI_clamp, vp_in_nI, nI_1, nI_add, mb_lt_t, mb_lt_f, mb_le_t, mb_le_f, mb_ne, mb_lt0, mb_le0, mb_m1, mb_m1l, mb_m1g, mb_m1n, mb_x2, mb_x4, mb_x32, mb_lt_4, mb_le_4, mb_ge_4, mb_gt_4, mb_le_3, mb_gt_3, mb_le_7, mb_gt_7, mb_lt_32, mb_ge_32, mb_lt_128, mb_ge_128, mb_ge_1, mb_lt_1, mb_ge_1f, mb_lt_1t, not_true, not_false_iff, false_implies, true_implies, true_and, and_true, forall_eq, forall_const, eq_self, mb_e10, k1, w0, w1, w2, w3]
            exact mb_i I
    · simp (disch := omega) only [wpX_slot, wpX_objectExists, wpY_slot, nI_clamp, vp_in_nI, nI_1, nI_add, mb_lt_t, mb_lt_f, mb_le_t, mb_le_f, mb_ne, mb_lt0, mb_le0, mb_m1, mb_m1l, mb_m1g, mb_m1n, mb_x2, mb_x4, mb_x32, mb_lt_4, mb_le_4, mb_ge_4, mb_gt_4, mb_le_3, mb_gt_3, mb_le_7, mb_gt_7, mb_lt_32, mb_ge_32, mb_lt_128, mb_ge_128, mb_ge_1, mb_lt_1, mb_ge_1f, mb_lt_1t, not_true, not_false_iff, false_implies, true_implies, true_and, and_true, forall_eq, forall_const, eq_self, mb_e10, k1]
      exact mb_i I
end
