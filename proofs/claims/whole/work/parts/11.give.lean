section
variable {n p nd c : Nat} {par rev st pcs regs plen pop px py kd hm lk ht sl path hx he : Nat → Int32} {flt : Int32}
theorem my_gadj {post : Int32 → SY → Prop} {d r j h : Nat} (hd : d < nd) (hnd : nd ≤ 4) (hr : r < 4) (hj : j < c) (hc : c ≤ 32) (hh : h < 4) (ehm : hm j = nI h) (hne : h ≠ d) (hP0 : par 0 = -1)
    (a : par h = nI d ∨ par d = nI h) (K : wY_give_147 post (nI d) (nI r) (nI j) (nI h) (nI (mb_mx h d)) (nI n) (nI p) (nI nd) (nI c) flt par rev regs pop px py plen pcs st kd hm lk (mb_ev sl) (mb_od sl) ht hx he) : wpY_give post (nI n, nI p, nI nd, nI c, flt, par, rev, regs, pop, px, py, plen, pcs, st, kd, hm, lk, mb_ev sl, mb_od sl, ht, hx, he) (nI d) (nI r) (nI j) := by
  have K1 := my_147 (by omega) (by omega) K
  by_cases e : par d = nI h
  · have d1 : 1 ≤ d := by
      by_cases z : d = 0
      · rw [z, hP0] at e; exact absurd e.symm (mb_n1 (by omega))
      · omega
    simp (disch := omega) only [wpY_give, nI_clamp, vp_in_nI, nI_1, nI_add, mb_lt_t, mb_lt_f, mb_le_t, mb_le_f, mb_ne, mb_lt0, mb_le0, mb_m1, mb_m1l, mb_m1g, mb_m1n, mb_x2, mb_x4, mb_x32, mb_lt_4, mb_le_4, mb_ge_4, mb_gt_4, mb_le_3, mb_gt_3, mb_le_7, mb_gt_7, mb_lt_32, mb_ge_32, mb_lt_128, mb_ge_128, mb_ge_1, mb_lt_1, mb_ge_1f, mb_lt_1t, not_true, not_false_iff, false_implies, true_implies, true_and, and_true, forall_eq, forall_const, eq_self, mb_e10, ehm, e]
    exact K1
  · have e1 : par h = nI d := a.resolve_right e
    have e2 : ¬ nI h = par d := fun z => e z.symm
    have h1 : 1 ≤ h := by
      by_cases z : h = 0
      · rw [z, hP0] at e1; exact absurd e1.symm (mb_n1 (by omega))
      · omega
    by_cases d1 : d < 1
    · simp (disch := omega) only [wpY_give, wY_give_98, nI_clamp, vp_in_nI, nI_1, nI_add, mb_lt_t, mb_lt_f, mb_le_t, mb_le_f, mb_ne, mb_lt0, mb_le0, mb_m1, mb_m1l, mb_m1g, mb_m1n, mb_x2, mb_x4, mb_x32, mb_lt_4, mb_le_4, mb_ge_4, mb_gt_4, mb_le_3, mb_gt_3, mb_le_7, mb_gt_7, mb_lt_32, mb_ge_32, mb_lt_128, mb_ge_128, mb_ge_1, mb_lt_1, mb_ge_1f, mb_lt_1t, not_true, not_false_iff, false_implies, true_implies, true_and, and_true, forall_eq, forall_const, eq_self, mb_e10, ehm, e1]
      exact K1
    · simp (disch := omega) only [wpY_give, wY_give_98, nI_clamp, vp_in_nI, nI_1, nI_add, mb_lt_t, mb_lt_f, mb_le_t, mb_le_f, mb_ne, mb_lt0, mb_le0, mb_m1, mb_m1l, mb_m1g, mb_m1n, mb_x2, mb_x4, mb_x32, mb_lt_4, mb_le_4, mb_ge_4, mb_gt_4, mb_le_3, mb_gt_3, mb_le_7, mb_gt_7, mb_lt_32, mb_ge_32, mb_lt_128, mb_ge_128, mb_ge_1, mb_lt_1, mb_ge_1f, mb_lt_1t, not_true, not_false_iff, false_implies, true_implies, true_and, and_true, forall_eq, forall_const, eq_self, mb_e10, ehm, e1, e2]
      exact K1
theorem my_gnad {post : Int32 → SY → Prop} {d r j h : Nat} (hd : d < nd) (hnd : nd ≤ 4) (hr : r < 4) (hj : j < c) (hc : c ≤ 32) (hh : h < 4) (ehm : hm j = nI h) (hne : h ≠ d)
    (a : ¬ (par h = nI d ∨ par d = nI h)) (K : post 0 (nI n, nI p, nI nd, nI c, flt, par, rev, regs, pop, px, py, plen, pcs, st, kd, hm, lk, mb_ev sl, mb_od sl, ht, hx, he)) : wpY_give post (nI n, nI p, nI nd, nI c, flt, par, rev, regs, pop, px, py, plen, pcs, st, kd, hm, lk, mb_ev sl, mb_od sl, ht, hx, he) (nI d) (nI r) (nI j) := by
  have e1 : ¬ par h = nI d := fun z => a (Or.inl z)
  have e2 : ¬ nI h = par d := fun z => a (Or.inr z.symm)
  by_cases d1 : d < 1
  · by_cases h1 : h < 1
    · omega
    · simp (disch := omega) only [wpY_give, wY_give_98, wY_give_125, wY_give_126, nI_clamp, vp_in_nI, nI_1, nI_add, mb_lt_t, mb_lt_f, mb_le_t, mb_le_f, mb_ne, mb_lt0, mb_le0, mb_m1, mb_m1l, mb_m1g, mb_m1n, mb_x2, mb_x4, mb_x32, mb_lt_4, mb_le_4, mb_ge_4, mb_gt_4, mb_le_3, mb_gt_3, mb_le_7, mb_gt_7, mb_lt_32, mb_ge_32, mb_lt_128, mb_ge_128, mb_ge_1, mb_lt_1, mb_ge_1f, mb_lt_1t, not_true, not_false_iff, false_implies, true_implies, true_and, and_true, forall_eq, forall_const, eq_self, mb_e10, ehm, e1]
      exact K
  · by_cases h1 : h < 1
    · simp (disch := omega) only [wpY_give, wY_give_98, wY_give_125, wY_give_126, nI_clamp, vp_in_nI, nI_1, nI_add, mb_lt_t, mb_lt_f, mb_le_t, mb_le_f, mb_ne, mb_lt0, mb_le0, mb_m1, mb_m1l, mb_m1g, mb_m1n, mb_x2, mb_x4, mb_x32, mb_lt_4, mb_le_4, mb_ge_4, mb_gt_4, mb_le_3, mb_gt_3, mb_le_7, mb_gt_7, mb_lt_32, mb_ge_32, mb_lt_128, mb_ge_128, mb_ge_1, mb_lt_1, mb_ge_1f, mb_lt_1t, not_true, not_false_iff, false_implies, true_implies, true_and, and_true, forall_eq, forall_const, eq_self, mb_e10, ehm, e2]
      exact K
    · simp (disch := omega) only [wpY_give, wY_give_98, wY_give_125, wY_give_126, nI_clamp, vp_in_nI, nI_1, nI_add, mb_lt_t, mb_lt_f, mb_le_t, mb_le_f, mb_ne, mb_lt0, mb_le0, mb_m1, mb_m1l, mb_m1g, mb_m1n, mb_x2, mb_x4, mb_x32, mb_lt_4, mb_le_4, mb_ge_4, mb_gt_4, mb_le_3, mb_gt_3, mb_le_7, mb_gt_7, mb_lt_32, mb_ge_32, mb_lt_128, mb_ge_128, mb_ge_1, mb_lt_1, mb_ge_1f, mb_lt_1t, not_true, not_false_iff, false_implies, true_implies, true_and, and_true, forall_eq, forall_const, eq_self, mb_e10, ehm, e1, e2]
      exact K
theorem i_vc_give {k : Nat} {u : SX} {v : SY} (I : i_Rel k u v) (hk : k + 5 ≤ 2562) (v1 : Int32) (v2 : Int32) (v3 : Int32) : wpX_give (fun r u' => wpY_give (fun r' v' => r' = r ∧ i_Rel (k + 5) u' v') v v1 v2 v3) u v1 v2 v3 := by
  obtain ⟨n, p, nd, c, par, rev, st, pcs, regs, plen, pop, px, py, kd, hm, lk, ht, sl, path, hx, he, flt, rfl, rfl, I⟩ := I
  obtain ⟨H, hn8, hp8, hp, hP, hF, hR, hG⟩ := id I
  have hn : n ≤ 32 := H.2.1
  have hcn : c ≤ n := H.1
  have hnd : nd ≤ 4 := H.2.2.2.1
  have hnd1 : 1 ≤ nd := H.2.2.1
  have m1 : (-1 : Int32) ≤ -1 := by decide
  have m3 : ¬ (-1 : Int32) ≤ -3 := by decide
  have m4 : ¬ (-1 : Int32) ≤ -4 := by decide
  rcases mb_ix v1 (n := nd) (by omega) with ⟨z1, z2⟩ | ⟨z1, z2, z3, z4⟩ | ⟨d, hd, rfl⟩
  · simp (disch := omega) only [wpX_give, wpX_domainExists, wpX_isRegister, wpY_give, nI_clamp, vp_in_nI, nI_1, nI_add, mb_lt_t, mb_lt_f, mb_le_t, mb_le_f, mb_ne, mb_lt0, mb_le0, mb_m1, mb_m1l, mb_m1g, mb_m1n, mb_x2, mb_x4, mb_x32, mb_lt_4, mb_le_4, mb_ge_4, mb_gt_4, mb_le_3, mb_gt_3, mb_le_7, mb_gt_7, mb_lt_32, mb_ge_32, mb_lt_128, mb_ge_128, mb_ge_1, mb_lt_1, mb_ge_1f, mb_lt_1t, not_true, not_false_iff, false_implies, true_implies, true_and, and_true, forall_eq, forall_const, eq_self, mb_e10, z1, z2]
    exact mb_i I
  · simp (disch := omega) only [wpX_give, wpX_domainExists, wpX_isRegister, wpY_give, nI_clamp, vp_in_nI, nI_1, nI_add, mb_lt_t, mb_lt_f, mb_le_t, mb_le_f, mb_ne, mb_lt0, mb_le0, mb_m1, mb_m1l, mb_m1g, mb_m1n, mb_x2, mb_x4, mb_x32, mb_lt_4, mb_le_4, mb_ge_4, mb_gt_4, mb_le_3, mb_gt_3, mb_le_7, mb_gt_7, mb_lt_32, mb_ge_32, mb_lt_128, mb_ge_128, mb_ge_1, mb_lt_1, mb_ge_1f, mb_lt_1t, not_true, not_false_iff, false_implies, true_implies, true_and, and_true, forall_eq, forall_const, eq_self, mb_e10, z1, z2, z3, z4]
    exact mb_i I
  · rcases mb_ix4 v2 with ⟨z1, z2⟩ | ⟨z1, z2, z3, z4, z5, z6⟩ | ⟨r, hr, rfl⟩
    · simp (disch := omega) only [wpX_give, wpX_domainExists, wpX_isRegister, wpY_give, nI_clamp, vp_in_nI, nI_1, nI_add, mb_lt_t, mb_lt_f, mb_le_t, mb_le_f, mb_ne, mb_lt0, mb_le0, mb_m1, mb_m1l, mb_m1g, mb_m1n, mb_x2, mb_x4, mb_x32, mb_lt_4, mb_le_4, mb_ge_4, mb_gt_4, mb_le_3, mb_gt_3, mb_le_7, mb_gt_7, mb_lt_32, mb_ge_32, mb_lt_128, mb_ge_128, mb_ge_1, mb_lt_1, mb_ge_1f, mb_lt_1t, not_true, not_false_iff, false_implies, true_implies, true_and, and_true, forall_eq, forall_const, eq_self, mb_e10, z1, z2]
      exact mb_i I
    · simp (disch := omega) only [wpX_give, wpX_domainExists, wpX_isRegister, wpY_give, nI_clamp, vp_in_nI, nI_1, nI_add, mb_lt_t, mb_lt_f, mb_le_t, mb_le_f, mb_ne, mb_lt0, mb_le0, mb_m1, mb_m1l, mb_m1g, mb_m1n, mb_x2, mb_x4, mb_x32, mb_lt_4, mb_le_4, mb_ge_4, mb_gt_4, mb_le_3, mb_gt_3, mb_le_7, mb_gt_7, mb_lt_32, mb_ge_32, mb_lt_128, mb_ge_128, mb_ge_1, mb_lt_1, mb_ge_1f, mb_lt_1t, not_true, not_false_iff, false_implies, true_implies, true_and, and_true, forall_eq, forall_const, eq_self, mb_e10, z1, z2, z3, z4, z5, z6]
      exact mb_i I
    · by_cases w : v3 = -1
      · subst w
        simp (disch := omega) only [wpX_give, wpX_domainExists, wpX_isRegister, wpY_give, nI_clamp, vp_in_nI, nI_1, nI_add, mb_lt_t, mb_lt_f, mb_le_t, mb_le_f, mb_ne, mb_lt0, mb_le0, mb_m1, mb_m1l, mb_m1g, mb_m1n, mb_x2, mb_x4, mb_x32, mb_lt_4, mb_le_4, mb_ge_4, mb_gt_4, mb_le_3, mb_gt_3, mb_le_7, mb_gt_7, mb_lt_32, mb_ge_32, mb_lt_128, mb_ge_128, mb_ge_1, mb_lt_1, mb_ge_1f, mb_lt_1t, not_true, not_false_iff, false_implies, true_implies, true_and, and_true, forall_eq, forall_const, eq_self, mb_e10, wX_give_43, wpX_isFault, m1]
        exact mb_i ⟨H, hn8, hp8, hp, hP, mb_F_reg hF hd hr _, mb_R_set hR _ (Or.inl rfl), hG⟩
      · rcases mb_ix v3 (n := c) (by omega) with ⟨z1, z2⟩ | ⟨z1, z2, z3, z4⟩ | ⟨j, hj, rfl⟩
        · simp (disch := omega) only [wpX_give, wpX_domainExists, wpX_isRegister, wpY_give, nI_clamp, vp_in_nI, nI_1, nI_add, mb_lt_t, mb_lt_f, mb_le_t, mb_le_f, mb_ne, mb_lt0, mb_le0, mb_m1, mb_m1l, mb_m1g, mb_m1n, mb_x2, mb_x4, mb_x32, mb_lt_4, mb_le_4, mb_ge_4, mb_gt_4, mb_le_3, mb_gt_3, mb_le_7, mb_gt_7, mb_lt_32, mb_ge_32, mb_lt_128, mb_ge_128, mb_ge_1, mb_lt_1, mb_ge_1f, mb_lt_1t, not_true, not_false_iff, false_implies, true_implies, true_and, and_true, forall_eq, forall_const, eq_self, mb_e10, wpX_objectExists, w, z1, z2]
          exact mb_i I
        · simp (disch := omega) only [wpX_give, wpX_domainExists, wpX_isRegister, wpY_give, nI_clamp, vp_in_nI, nI_1, nI_add, mb_lt_t, mb_lt_f, mb_le_t, mb_le_f, mb_ne, mb_lt0, mb_le0, mb_m1, mb_m1l, mb_m1g, mb_m1n, mb_x2, mb_x4, mb_x32, mb_lt_4, mb_le_4, mb_ge_4, mb_gt_4, mb_le_3, mb_gt_3, mb_le_7, mb_gt_7, mb_lt_32, mb_ge_32, mb_lt_128, mb_ge_128, mb_ge_1, mb_lt_1, mb_ge_1f, mb_lt_1t, not_true, not_false_iff, false_implies, true_implies, true_and, and_true, forall_eq, forall_const, eq_self, mb_e10, wpX_objectExists, w, z1, z2, z3, z4]
          exact mb_i I
        · obtain ⟨h, hh, ehm⟩ := (mb_H_ob H hj).1
          by_cases hne : h = d
          · subst hne
            simp (disch := omega) only [wpX_give, wpX_domainExists, wpX_isRegister, wpY_give, nI_clamp, vp_in_nI, nI_1, nI_add, mb_lt_t, mb_lt_f, mb_le_t, mb_le_f, mb_ne, mb_lt0, mb_le0, mb_m1, mb_m1l, mb_m1g, mb_m1n, mb_x2, mb_x4, mb_x32, mb_lt_4, mb_le_4, mb_ge_4, mb_gt_4, mb_le_3, mb_gt_3, mb_le_7, mb_gt_7, mb_lt_32, mb_ge_32, mb_lt_128, mb_ge_128, mb_ge_1, mb_lt_1, mb_ge_1f, mb_lt_1t, not_true, not_false_iff, false_implies, true_implies, true_and, and_true, forall_eq, forall_const, eq_self, mb_e10, wpX_objectExists, wpX_bring, wX_give_43, wpX_isFault, ehm]
            exact mb_i ⟨H, hn8, hp8, hp, hP, mb_F_reg hF hd hr _, mb_R_set hR _ (Or.inr ⟨j, hj, rfl⟩), hG⟩
          · by_cases a : par h = nI d ∨ par d = nI h
            · have hmx := mb_mx_lt (d := 4) (show h < 4 by omega) (show d < 4 by omega)
              by_cases rv : rev (mb_mx h d) = 0
              · obtain ⟨c1, kd1, hm1, lk1, ht1, sl1, aX, aY, H1, E1, hA, cX, cY⟩ := mb_carry H (Or.inr ⟨j, hj, rfl⟩) hh hd ht
                have hc1 : c1 ≤ 32 := Nat.le_trans H1.1 H1.2.1
                simp (disch := omega) only [wpX_give, wpX_domainExists, wpX_isRegister, wpX_objectExists, wpX_bring, nI_clamp, vp_in_nI, nI_1, nI_add, mb_lt_t, mb_lt_f, mb_le_t, mb_le_f, mb_ne, mb_lt0, mb_le0, mb_m1, mb_m1l, mb_m1g, mb_m1n, mb_x2, mb_x4, mb_x32, mb_lt_4, mb_le_4, mb_ge_4, mb_gt_4, mb_le_3, mb_gt_3, mb_le_7, mb_gt_7, mb_lt_32, mb_ge_32, mb_lt_128, mb_ge_128, mb_ge_1, mb_lt_1, mb_ge_1f, mb_lt_1t, not_true, not_false_iff, false_implies, true_implies, true_and, and_true, forall_eq, forall_const, eq_self, mb_e10, ehm]
                refine mx_adj (by omega) (by omega) a ?_
                simp (disch := omega) only [mx_mbE, nI_clamp, vp_in_nI, nI_1, nI_add, mb_lt_t, mb_lt_f, mb_le_t, mb_le_f, mb_ne, mb_lt0, mb_le0, mb_m1, mb_m1l, mb_m1g, mb_m1n, mb_x2, mb_x4, mb_x32, mb_lt_4, mb_le_4, mb_ge_4, mb_gt_4, mb_le_3, mb_gt_3, mb_le_7, mb_gt_7, mb_lt_32, mb_ge_32, mb_lt_128, mb_ge_128, mb_ge_1, mb_lt_1, mb_ge_1f, mb_lt_1t, not_true, not_false_iff, false_implies, true_implies, true_and, and_true, forall_eq, forall_const, eq_self, mb_e10, rv]
                refine cX p par rev st pcs regs plen pop px py path _ ?_
                rcases hA with ⟨r1, rfl⟩ | ⟨rfl, rfl⟩
                · obtain ⟨q1, q2⟩ := mb_ref_le r1 hc1
                  simp (disch := omega) only [wX_give_43, wpX_isFault, nI_clamp, vp_in_nI, nI_1, nI_add, mb_lt_t, mb_lt_f, mb_le_t, mb_le_f, mb_ne, mb_lt0, mb_le0, mb_m1, mb_m1l, mb_m1g, mb_m1n, mb_x2, mb_x4, mb_x32, mb_lt_4, mb_le_4, mb_ge_4, mb_gt_4, mb_le_3, mb_gt_3, mb_le_7, mb_gt_7, mb_lt_32, mb_ge_32, mb_lt_128, mb_ge_128, mb_ge_1, mb_lt_1, mb_ge_1f, mb_lt_1t, not_true, not_false_iff, false_implies, true_implies, true_and, and_true, forall_eq, forall_const, eq_self, mb_e10, q1]
                  refine my_gadj hd hnd hr hj (by omega) (by omega) ehm hne hP.1 a ?_
                  simp (disch := omega) only [wY_give_147, nI_clamp, vp_in_nI, nI_1, nI_add, mb_lt_t, mb_lt_f, mb_le_t, mb_le_f, mb_ne, mb_lt0, mb_le0, mb_m1, mb_m1l, mb_m1g, mb_m1n, mb_x2, mb_x4, mb_x32, mb_lt_4, mb_le_4, mb_ge_4, mb_gt_4, mb_le_3, mb_gt_3, mb_le_7, mb_gt_7, mb_lt_32, mb_ge_32, mb_lt_128, mb_ge_128, mb_ge_1, mb_lt_1, mb_ge_1f, mb_lt_1t, not_true, not_false_iff, false_implies, true_implies, true_and, and_true, forall_eq, forall_const, eq_self, mb_e10, rv]
                  refine cY p flt par rev regs pop px py plen pcs st hx he _ ?_
                  simp (disch := omega) only [nI_clamp, vp_in_nI, nI_1, nI_add, mb_lt_t, mb_lt_f, mb_le_t, mb_le_f, mb_ne, mb_lt0, mb_le0, mb_m1, mb_m1l, mb_m1g, mb_m1n, mb_x2, mb_x4, mb_x32, mb_lt_4, mb_le_4, mb_ge_4, mb_gt_4, mb_le_3, mb_gt_3, mb_le_7, mb_gt_7, mb_lt_32, mb_ge_32, mb_lt_128, mb_ge_128, mb_ge_1, mb_lt_1, mb_ge_1f, mb_lt_1t, not_true, not_false_iff, false_implies, true_implies, true_and, and_true, forall_eq, forall_const, eq_self, mb_e10, q2]
                  exact mb_i ⟨H1, hn8, hp8, hp, hP, mb_F_reg hF hd hr _, mb_R_set (mb_R_up hR E1.1) _ r1, hG⟩
                · simp (disch := omega) only [wX_give_43, wpX_isFault, nI_clamp, vp_in_nI, nI_1, nI_add, mb_lt_t, mb_lt_f, mb_le_t, mb_le_f, mb_ne, mb_lt0, mb_le0, mb_m1, mb_m1l, mb_m1g, mb_m1n, mb_x2, mb_x4, mb_x32, mb_lt_4, mb_le_4, mb_ge_4, mb_gt_4, mb_le_3, mb_gt_3, mb_le_7, mb_gt_7, mb_lt_32, mb_ge_32, mb_lt_128, mb_ge_128, mb_ge_1, mb_lt_1, mb_ge_1f, mb_lt_1t, not_true, not_false_iff, false_implies, true_implies, true_and, and_true, forall_eq, forall_const, eq_self, mb_e10, m4]
                  refine my_gadj hd hnd hr hj (by omega) (by omega) ehm hne hP.1 a ?_
                  simp (disch := omega) only [wY_give_147, nI_clamp, vp_in_nI, nI_1, nI_add, mb_lt_t, mb_lt_f, mb_le_t, mb_le_f, mb_ne, mb_lt0, mb_le0, mb_m1, mb_m1l, mb_m1g, mb_m1n, mb_x2, mb_x4, mb_x32, mb_lt_4, mb_le_4, mb_ge_4, mb_gt_4, mb_le_3, mb_gt_3, mb_le_7, mb_gt_7, mb_lt_32, mb_ge_32, mb_lt_128, mb_ge_128, mb_ge_1, mb_lt_1, mb_ge_1f, mb_lt_1t, not_true, not_false_iff, false_implies, true_implies, true_and, and_true, forall_eq, forall_const, eq_self, mb_e10, rv]
                  refine cY p flt par rev regs pop px py plen pcs st hx he _ ?_
                  simp (disch := omega) only [nI_clamp, vp_in_nI, nI_1, nI_add, mb_lt_t, mb_lt_f, mb_le_t, mb_le_f, mb_ne, mb_lt0, mb_le0, mb_m1, mb_m1l, mb_m1g, mb_m1n, mb_x2, mb_x4, mb_x32, mb_lt_4, mb_le_4, mb_ge_4, mb_gt_4, mb_le_3, mb_gt_3, mb_le_7, mb_gt_7, mb_lt_32, mb_ge_32, mb_lt_128, mb_ge_128, mb_ge_1, mb_lt_1, mb_ge_1f, mb_lt_1t, not_true, not_false_iff, false_implies, true_implies, true_and, and_true, forall_eq, forall_const, eq_self, mb_e10]
                  exact mb_i ⟨H1, hn8, hp8, hp, hP, hF, mb_R_up hR E1.1, hG⟩
              · simp (disch := omega) only [wpX_give, wpX_domainExists, wpX_isRegister, wpX_objectExists, wpX_bring, nI_clamp, vp_in_nI, nI_1, nI_add, mb_lt_t, mb_lt_f, mb_le_t, mb_le_f, mb_ne, mb_lt0, mb_le0, mb_m1, mb_m1l, mb_m1g, mb_m1n, mb_x2, mb_x4, mb_x32, mb_lt_4, mb_le_4, mb_ge_4, mb_gt_4, mb_le_3, mb_gt_3, mb_le_7, mb_gt_7, mb_lt_32, mb_ge_32, mb_lt_128, mb_ge_128, mb_ge_1, mb_lt_1, mb_ge_1f, mb_lt_1t, not_true, not_false_iff, false_implies, true_implies, true_and, and_true, forall_eq, forall_const, eq_self, mb_e10, ehm]
                refine mx_adj (by omega) (by omega) a ?_
                simp (disch := omega) only [mx_mbE, wX_give_43, wpX_isFault, nI_clamp, vp_in_nI, nI_1, nI_add, mb_lt_t, mb_lt_f, mb_le_t, mb_le_f, mb_ne, mb_lt0, mb_le0, mb_m1, mb_m1l, mb_m1g, mb_m1n, mb_x2, mb_x4, mb_x32, mb_lt_4, mb_le_4, mb_ge_4, mb_gt_4, mb_le_3, mb_gt_3, mb_le_7, mb_gt_7, mb_lt_32, mb_ge_32, mb_lt_128, mb_ge_128, mb_ge_1, mb_lt_1, mb_ge_1f, mb_lt_1t, not_true, not_false_iff, false_implies, true_implies, true_and, and_true, forall_eq, forall_const, eq_self, mb_e10, rv, m3]
                refine my_gadj hd hnd hr hj (by omega) (by omega) ehm hne hP.1 a ?_
                simp (disch := omega) only [wY_give_147, nI_clamp, vp_in_nI, nI_1, nI_add, mb_lt_t, mb_lt_f, mb_le_t, mb_le_f, mb_ne, mb_lt0, mb_le0, mb_m1, mb_m1l, mb_m1g, mb_m1n, mb_x2, mb_x4, mb_x32, mb_lt_4, mb_le_4, mb_ge_4, mb_gt_4, mb_le_3, mb_gt_3, mb_le_7, mb_gt_7, mb_lt_32, mb_ge_32, mb_lt_128, mb_ge_128, mb_ge_1, mb_lt_1, mb_ge_1f, mb_lt_1t, not_true, not_false_iff, false_implies, true_implies, true_and, and_true, forall_eq, forall_const, eq_self, mb_e10, rv]
                exact mb_i I
            · simp (disch := omega) only [wpX_give, wpX_domainExists, wpX_isRegister, wpX_objectExists, wpX_bring, nI_clamp, vp_in_nI, nI_1, nI_add, mb_lt_t, mb_lt_f, mb_le_t, mb_le_f, mb_ne, mb_lt0, mb_le0, mb_m1, mb_m1l, mb_m1g, mb_m1n, mb_x2, mb_x4, mb_x32, mb_lt_4, mb_le_4, mb_ge_4, mb_gt_4, mb_le_3, mb_gt_3, mb_le_7, mb_gt_7, mb_lt_32, mb_ge_32, mb_lt_128, mb_ge_128, mb_ge_1, mb_lt_1, mb_ge_1f, mb_lt_1t, not_true, not_false_iff, false_implies, true_implies, true_and, and_true, forall_eq, forall_const, eq_self, mb_e10, ehm]
              refine mx_nadj (by omega) (by omega) a ?_
              simp (disch := omega) only [wX_give_43, wpX_isFault, nI_clamp, vp_in_nI, nI_1, nI_add, mb_lt_t, mb_lt_f, mb_le_t, mb_le_f, mb_ne, mb_lt0, mb_le0, mb_m1, mb_m1l, mb_m1g, mb_m1n, mb_x2, mb_x4, mb_x32, mb_lt_4, mb_le_4, mb_ge_4, mb_gt_4, mb_le_3, mb_gt_3, mb_le_7, mb_gt_7, mb_lt_32, mb_ge_32, mb_lt_128, mb_ge_128, mb_ge_1, mb_lt_1, mb_ge_1f, mb_lt_1t, not_true, not_false_iff, false_implies, true_implies, true_and, and_true, forall_eq, forall_const, eq_self, mb_e10, m3]
              exact my_gnad hd hnd hr hj (by omega) (by omega) ehm hne a ⟨rfl, mb_i I⟩
end
