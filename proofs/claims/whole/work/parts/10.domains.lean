section
variable {n p nd c : Nat} {par rev st pcs regs plen pop px py kd hm lk ht sl path hx he : Nat → Int32} {flt : Int32}
/-- the reference writes a new domain's cells anew: they hold these values already -/
theorem my_ndl {post : Int32 → SY → Prop} {x1 : Int32} (hd : nd < 4) (hc : c < 32) (e1 : plen nd = 0) (e2 : pcs nd = 0) (e3 : st nd = 0) (e4 : ∀ r, r < 4 → regs (nd * 4 + r) = -1)
    (K : post (nI nd) (nI n, nI p, nI (nd + 1), nI (c + 1), flt, par, rev, regs, pop, px, py, plen, pcs, st, (upd kd c 2), (upd hm c x1), (upd lk c (nI nd)), (mb_ev (upd (upd sl (c * 2) (-1)) (c * 2 + 1) (-1))), (mb_od (upd (upd sl (c * 2) (-1)) (c * 2 + 1) (-1))), (upd ht c 0), hx, he)) :
    ∀ m i : Nat, i ≤ 4 → 4 - i < m → wY_newDomain_58 post x1 (nI nd) (nI n) (nI p) (nI nd) (nI c) flt m (nI i) par rev regs pop px py plen pcs st kd hm lk (mb_ev sl) (mb_od sl) ht hx he := by
  intro m
  induction m with
  | zero => intro i _ z; omega
  | succ m ih =>
    intro i hi z
    by_cases e : i = 4
    · subst e
      simp (disch := omega) only [wY_newDomain_58, nI_clamp, vp_in_nI, nI_1, nI_add, mb_lt_t, mb_lt_f, mb_le_t, mb_le_f, mb_ne, mb_lt0, mb_le0, mb_m1, mb_m1l, mb_m1g, mb_m1n, mb_x2, mb_x4, mb_x32, mb_lt_4, mb_le_4, mb_ge_4, mb_gt_4, mb_le_3, mb_gt_3, mb_le_7, mb_gt_7, mb_lt_32, mb_ge_32, mb_lt_128, mb_ge_128, mb_ge_1, mb_lt_1, mb_ge_1f, mb_lt_1t, not_true, not_false_iff, false_implies, true_implies, true_and, and_true, forall_eq, forall_const, eq_self, mb_e10, mb_upd_id e1, mb_upd_id e2, mb_upd_id e3]
      exact my_mk hc K
    · have K' := ih (i + 1) (by omega) (by omega)
      have a := e4 i (by omega)
      simp (disch := omega) only [wY_newDomain_58, nI_clamp, vp_in_nI, nI_1, nI_add, mb_lt_t, mb_lt_f, mb_le_t, mb_le_f, mb_ne, mb_lt0, mb_le0, mb_m1, mb_m1l, mb_m1g, mb_m1n, mb_x2, mb_x4, mb_x32, mb_lt_4, mb_le_4, mb_ge_4, mb_gt_4, mb_le_3, mb_gt_3, mb_le_7, mb_gt_7, mb_lt_32, mb_ge_32, mb_lt_128, mb_ge_128, mb_ge_1, mb_lt_1, mb_ge_1f, mb_lt_1t, not_true, not_false_iff, false_implies, true_implies, true_and, and_true, forall_eq, forall_const, eq_self, mb_e10, mb_upd_id a]
      exact K'
theorem i_vc_newDomain {k : Nat} {u : SX} {v : SY} (I : i_Rel k u v) (hk : k + 5 ≤ 2562) (v1 : Int32) : wpX_newDomain (fun r u' => wpY_newDomain (fun r' v' => r' = r ∧ i_Rel (k + 5) u' v') v v1) u v1 := by
  obtain ⟨n, p, nd, c, par, rev, st, pcs, regs, plen, pop, px, py, kd, hm, lk, ht, sl, path, hx, he, flt, rfl, rfl, I⟩ := I
  obtain ⟨H, hn8, hp8, hp, hP, hF, hR, hG⟩ := id I
  have hn : n ≤ 32 := H.2.1
  have hcn : c ≤ n := H.1
  have hnd : nd ≤ 4 := H.2.2.2.1
  have hnd1 : 1 ≤ nd := H.2.2.1
  rcases mb_ix v1 (n := nd) (by omega) with ⟨z1, z2⟩ | ⟨z1, z2, z3, z4⟩ | ⟨j, hj, rfl⟩
  · simp (disch := omega) only [wpX_newDomain, wpX_domainExists, wpY_newDomain, nI_clamp, vp_in_nI, nI_1, nI_add, mb_lt_t, mb_lt_f, mb_le_t, mb_le_f, mb_ne, mb_lt0, mb_le0, mb_m1, mb_m1l, mb_m1g, mb_m1n, mb_x2, mb_x4, mb_x32, mb_lt_4, mb_le_4, mb_ge_4, mb_gt_4, mb_le_3, mb_gt_3, mb_le_7, mb_gt_7, mb_lt_32, mb_ge_32, mb_lt_128, mb_ge_128, mb_ge_1, mb_lt_1, mb_ge_1f, mb_lt_1t, not_true, not_false_iff, false_implies, true_implies, true_and, and_true, forall_eq, forall_const, eq_self, mb_e10, z1, z2]
    exact mb_i I
  · simp (disch := omega) only [wpX_newDomain, wpX_domainExists, wpY_newDomain, nI_clamp, vp_in_nI, nI_1, nI_add, mb_lt_t, mb_lt_f, mb_le_t, mb_le_f, mb_ne, mb_lt0, mb_le0, mb_m1, mb_m1l, mb_m1g, mb_m1n, mb_x2, mb_x4, mb_x32, mb_lt_4, mb_le_4, mb_ge_4, mb_gt_4, mb_le_3, mb_gt_3, mb_le_7, mb_gt_7, mb_lt_32, mb_ge_32, mb_lt_128, mb_ge_128, mb_ge_1, mb_lt_1, mb_ge_1f, mb_lt_1t, not_true, not_false_iff, false_implies, true_implies, true_and, and_true, forall_eq, forall_const, eq_self, mb_e10, z1, z2, z3, z4]
    exact mb_i I
  · by_cases h4 : nd < 4
    · by_cases hc : c < n
      · obtain ⟨f1, f2, f3, f4, f5⟩ := hF nd (Nat.le_refl _) h4
        have f0 : upd rev nd (vp_nar .boolean 0) = rev := mb_upd_id (f1.trans mb_nar0.symm)
        simp (disch := omega) only [wpX_newDomain, wpX_domainExists, wpY_newDomain, nI_clamp, vp_in_nI, nI_1, nI_add, mb_lt_t, mb_lt_f, mb_le_t, mb_le_f, mb_ne, mb_lt0, mb_le0, mb_m1, mb_m1l, mb_m1g, mb_m1n, mb_x2, mb_x4, mb_x32, mb_lt_4, mb_le_4, mb_ge_4, mb_gt_4, mb_le_3, mb_gt_3, mb_le_7, mb_gt_7, mb_lt_32, mb_ge_32, mb_lt_128, mb_ge_128, mb_ge_1, mb_lt_1, mb_ge_1f, mb_lt_1t, not_true, not_false_iff, false_implies, true_implies, true_and, and_true, forall_eq, forall_const, eq_self, mb_e10, f0]
        refine mx_mk hc hn ?_
        refine ⟨5, my_ndl h4 (by omega) f4 f3 f2 f5 ?_ 5 0 (by omega) (by omega)⟩
        exact ⟨rfl, mb_i ⟨mb_mk (mb_nd H h4) hc ⟨⟨j, by omega, rfl⟩, Or.inr (Or.inl ⟨rfl, nd, hnd1, by omega, rfl⟩)⟩, hn8, hp8, hp, mb_P_nd hP hnd1 hj, mb_F_nd hF, mb_R_up hR (by omega), hG⟩⟩
      · simp (disch := omega) only [wpX_newDomain, wpX_domainExists, wpY_newDomain, nI_clamp, vp_in_nI, nI_1, nI_add, mb_lt_t, mb_lt_f, mb_le_t, mb_le_f, mb_ne, mb_lt0, mb_le0, mb_m1, mb_m1l, mb_m1g, mb_m1n, mb_x2, mb_x4, mb_x32, mb_lt_4, mb_le_4, mb_ge_4, mb_gt_4, mb_le_3, mb_gt_3, mb_le_7, mb_gt_7, mb_lt_32, mb_ge_32, mb_lt_128, mb_ge_128, mb_ge_1, mb_lt_1, mb_ge_1f, mb_lt_1t, not_true, not_false_iff, false_implies, true_implies, true_and, and_true, forall_eq, forall_const, eq_self, mb_e10]
        exact mb_i I
    · simp (disch := omega) only [wpX_newDomain, wpX_domainExists, wpY_newDomain, nI_clamp, vp_in_nI, nI_1, nI_add, mb_lt_t, mb_lt_f, mb_le_t, mb_le_f, mb_ne, mb_lt0, mb_le0, mb_m1, mb_m1l, mb_m1g, mb_m1n, mb_x2, mb_x4, mb_x32, mb_lt_4, mb_le_4, mb_ge_4, mb_gt_4, mb_le_3, mb_gt_3, mb_le_7, mb_gt_7, mb_lt_32, mb_ge_32, mb_lt_128, mb_ge_128, mb_ge_1, mb_lt_1, mb_ge_1f, mb_lt_1t, not_true, not_false_iff, false_implies, true_implies, true_and, and_true, forall_eq, forall_const, eq_self, mb_e10]
      exact mb_i I
/-- the two tests of adjacency say the same -/
theorem mx_adj {post : Int32 → Prop} {h d : Nat} (h1 : h < 4) (h2 : d < 4) (a : par h = nI d ∨ par d = nI h) (K : post 1) : wpX_areAdjacent post (nI n, nI p, nI nd, nI c, par, rev, st, pcs, regs, plen, pop, px, py, kd, hm, lk, ht, sl, path) (nI h) (nI d) := by
  by_cases e : par h = nI d
  · simp (disch := omega) only [wpX_areAdjacent, nI_clamp, vp_in_nI, nI_1, nI_add, mb_lt_t, mb_lt_f, mb_le_t, mb_le_f, mb_ne, mb_lt0, mb_le0, mb_m1, mb_m1l, mb_m1g, mb_m1n, mb_x2, mb_x4, mb_x32, mb_lt_4, mb_le_4, mb_ge_4, mb_gt_4, mb_le_3, mb_gt_3, mb_le_7, mb_gt_7, mb_lt_32, mb_ge_32, mb_lt_128, mb_ge_128, mb_ge_1, mb_lt_1, mb_ge_1f, mb_lt_1t, not_true, not_false_iff, false_implies, true_implies, true_and, and_true, forall_eq, forall_const, eq_self, mb_e10, e]
    exact K
  · have e' : par d = nI h := a.resolve_left e
    simp (disch := omega) only [wpX_areAdjacent, nI_clamp, vp_in_nI, nI_1, nI_add, mb_lt_t, mb_lt_f, mb_le_t, mb_le_f, mb_ne, mb_lt0, mb_le0, mb_m1, mb_m1l, mb_m1g, mb_m1n, mb_x2, mb_x4, mb_x32, mb_lt_4, mb_le_4, mb_ge_4, mb_gt_4, mb_le_3, mb_gt_3, mb_le_7, mb_gt_7, mb_lt_32, mb_ge_32, mb_lt_128, mb_ge_128, mb_ge_1, mb_lt_1, mb_ge_1f, mb_lt_1t, not_true, not_false_iff, false_implies, true_implies, true_and, and_true, forall_eq, forall_const, eq_self, mb_e10, e, e']
    exact K
theorem mx_nadj {post : Int32 → Prop} {h d : Nat} (h1 : h < 4) (h2 : d < 4) (a : ¬ (par h = nI d ∨ par d = nI h)) (K : post 0) : wpX_areAdjacent post (nI n, nI p, nI nd, nI c, par, rev, st, pcs, regs, plen, pop, px, py, kd, hm, lk, ht, sl, path) (nI h) (nI d) := by
  have e : ¬ par h = nI d := fun z => a (Or.inl z)
  have e' : ¬ par d = nI h := fun z => a (Or.inr z)
  simp (disch := omega) only [wpX_areAdjacent, nI_clamp, vp_in_nI, nI_1, nI_add, mb_lt_t, mb_lt_f, mb_le_t, mb_le_f, mb_ne, mb_lt0, mb_le0, mb_m1, mb_m1l, mb_m1g, mb_m1n, mb_x2, mb_x4, mb_x32, mb_lt_4, mb_le_4, mb_ge_4, mb_gt_4, mb_le_3, mb_gt_3, mb_le_7, mb_gt_7, mb_lt_32, mb_ge_32, mb_lt_128, mb_ge_128, mb_ge_1, mb_lt_1, mb_ge_1f, mb_lt_1t, not_true, not_false_iff, false_implies, true_implies, true_and, and_true, forall_eq, forall_const, eq_self, mb_e10, e, e']
  exact K
theorem my_147 {post : Int32 → SY → Prop} {d h : Nat} {x2 x3 : Int32} (h1 : h < 4) (h2 : d < 4)
    (K : wY_give_147 post (nI d) x2 x3 (nI h) (nI (mb_mx h d)) (nI n) (nI p) (nI nd) (nI c) flt par rev regs pop px py plen pcs st kd hm lk (mb_ev sl) (mb_od sl) ht hx he) : wY_give_121 post (nI d) x2 x3 (nI h) (nI n) (nI p) (nI nd) (nI c) flt par rev regs pop px py plen pcs st kd hm lk (mb_ev sl) (mb_od sl) ht hx he := by
  by_cases z : d < h
  · have emx : mb_mx h d = h := if_pos z
    rw [emx] at K
    simp (disch := omega) only [wY_give_121, wY_give_126, nI_clamp, vp_in_nI, nI_1, nI_add, mb_lt_t, mb_lt_f, mb_le_t, mb_le_f, mb_ne, mb_lt0, mb_le0, mb_m1, mb_m1l, mb_m1g, mb_m1n, mb_x2, mb_x4, mb_x32, mb_lt_4, mb_le_4, mb_ge_4, mb_gt_4, mb_le_3, mb_gt_3, mb_le_7, mb_gt_7, mb_lt_32, mb_ge_32, mb_lt_128, mb_ge_128, mb_ge_1, mb_lt_1, mb_ge_1f, mb_lt_1t, not_true, not_false_iff, false_implies, true_implies, true_and, and_true, forall_eq, forall_const, eq_self, mb_e10]
    exact K
  · have emx : mb_mx h d = d := if_neg z
    rw [emx] at K
    by_cases y : d ≤ h
    · have e : d = h := by omega
      subst e
      simp (disch := omega) only [wY_give_121, wY_give_126, nI_clamp, vp_in_nI, nI_1, nI_add, mb_lt_t, mb_lt_f, mb_le_t, mb_le_f, mb_ne, mb_lt0, mb_le0, mb_m1, mb_m1l, mb_m1g, mb_m1n, mb_x2, mb_x4, mb_x32, mb_lt_4, mb_le_4, mb_ge_4, mb_gt_4, mb_le_3, mb_gt_3, mb_le_7, mb_gt_7, mb_lt_32, mb_ge_32, mb_lt_128, mb_ge_128, mb_ge_1, mb_lt_1, mb_ge_1f, mb_lt_1t, not_true, not_false_iff, false_implies, true_implies, true_and, and_true, forall_eq, forall_const, eq_self, mb_e10]
      exact K
    · simp (disch := omega) only [wY_give_121, wY_give_126, nI_clamp, vp_in_nI, nI_1, nI_add, mb_lt_t, mb_lt_f, mb_le_t, mb_le_f, mb_ne, mb_lt0, mb_le0, mb_m1, mb_m1l, mb_m1g, mb_m1n, mb_x2, mb_x4, mb_x32, mb_lt_4, mb_le_4, mb_ge_4, mb_gt_4, mb_le_3, mb_gt_3, mb_le_7, mb_gt_7, mb_lt_32, mb_ge_32, mb_lt_128, mb_ge_128, mb_ge_1, mb_lt_1, mb_ge_1f, mb_lt_1t, not_true, not_false_iff, false_implies, true_implies, true_and, and_true, forall_eq, forall_const, eq_self, mb_e10]
      exact K
end
