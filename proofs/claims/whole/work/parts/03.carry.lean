section
variable {n p nd c : Nat} {par rev st pcs regs plen pop px py kd hm lk ht sl path hx he : Nat → Int32} {flt : Int32}
theorem mx_mk {post : Int32 → SX → Prop} {k h l : Int32} (hc : c < n) (hn : n ≤ 32) (K : post (nI c) (nI n, nI p, nI nd, nI (c + 1), par, rev, st, pcs, regs, plen, pop, px, py, (upd kd c k), (upd hm c h), (upd lk c l), (upd ht c 0), (upd (upd sl (c * 2) (-1)) (c * 2 + 1) (-1)), path)) : wpX_makeObject post (nI n, nI p, nI nd, nI c, par, rev, st, pcs, regs, plen, pop, px, py, kd, hm, lk, ht, sl, path) k h l := by
  simp (disch := omega) only [wpX_makeObject, nI_clamp, vp_in_nI, nI_1, nI_add, mb_lt_t, mb_lt_f, mb_le_t, mb_le_f, mb_ne, mb_lt0, mb_le0, mb_m1, mb_m1l, mb_m1g, mb_m1n, mb_x2, mb_x4, mb_x32, mb_lt_4, mb_le_4, mb_ge_4, mb_gt_4, mb_le_3, mb_gt_3, mb_le_7, mb_gt_7, mb_lt_32, mb_ge_32, mb_lt_128, mb_ge_128, mb_ge_1, mb_lt_1, mb_ge_1f, mb_lt_1t, not_true, not_false_iff, false_implies, true_implies, true_and, and_true, forall_eq, forall_const, eq_self, mb_e10]
  exact K
theorem mx_full {post : Int32 → SX → Prop} {k h l : Int32} (hc : n ≤ c) (hn : c ≤ 32) (K : post (-4) (nI n, nI p, nI nd, nI c, par, rev, st, pcs, regs, plen, pop, px, py, kd, hm, lk, ht, sl, path)) : wpX_makeObject post (nI n, nI p, nI nd, nI c, par, rev, st, pcs, regs, plen, pop, px, py, kd, hm, lk, ht, sl, path) k h l := by
  simp (disch := omega) only [wpX_makeObject, nI_clamp, vp_in_nI, nI_1, nI_add, mb_lt_t, mb_lt_f, mb_le_t, mb_le_f, mb_ne, mb_lt0, mb_le0, mb_m1, mb_m1l, mb_m1g, mb_m1n, mb_x2, mb_x4, mb_x32, mb_lt_4, mb_le_4, mb_ge_4, mb_gt_4, mb_le_3, mb_gt_3, mb_le_7, mb_gt_7, mb_lt_32, mb_ge_32, mb_lt_128, mb_ge_128, mb_ge_1, mb_lt_1, mb_ge_1f, mb_lt_1t, not_true, not_false_iff, false_implies, true_implies, true_and, and_true, forall_eq, forall_const, eq_self, mb_e10]
  exact K
theorem my_mk {post : Int32 → SY → Prop} {k h l : Int32} (hc : c < 32) (K : post (nI c) (nI n, nI p, nI nd, nI (c + 1), flt, par, rev, regs, pop, px, py, plen, pcs, st, (upd kd c k), (upd hm c h), (upd lk c l), (mb_ev (upd (upd sl (c * 2) (-1)) (c * 2 + 1) (-1))), (mb_od (upd (upd sl (c * 2) (-1)) (c * 2 + 1) (-1))), (upd ht c 0), hx, he)) : wpY_make post (nI n, nI p, nI nd, nI c, flt, par, rev, regs, pop, px, py, plen, pcs, st, kd, hm, lk, mb_ev sl, mb_od sl, ht, hx, he) k h l := by
  rw [mb_ev_o, mb_ev_e, mb_od_o, mb_od_e] at K
  simp (disch := omega) only [wpY_make, nI_clamp, vp_in_nI, nI_1, nI_add, mb_lt_t, mb_lt_f, mb_le_t, mb_le_f, mb_ne, mb_lt0, mb_le0, mb_m1, mb_m1l, mb_m1g, mb_m1n, mb_x2, mb_x4, mb_x32, mb_lt_4, mb_le_4, mb_ge_4, mb_gt_4, mb_le_3, mb_gt_3, mb_le_7, mb_gt_7, mb_lt_32, mb_ge_32, mb_lt_128, mb_ge_128, mb_ge_1, mb_lt_1, mb_ge_1f, mb_lt_1t, not_true, not_false_iff, false_implies, true_implies, true_and, and_true, forall_eq, forall_const, eq_self, mb_e10]
  exact K
theorem mx_hit {post : Int32 → Prop} {t b : Int32} {f : Nat} (hf : f < c) (hc : c ≤ 32) (h1 : kd f = 3) (h2 : hm f = b) (h3 : lk f = t) (hn : ∀ j, j < f → ¬ (kd j = 3 ∧ hm j = b ∧ lk j = t)) (K : post (nI f)) : ∀ m i : Nat, i ≤ f → f - i < m → wX_findForwarder_2 post t b (nI n) (nI p) (nI nd) (nI c) par rev st pcs regs plen pop px py kd hm lk ht sl path m (nI i) := by
  intro m
  induction m with
  | zero => intro i _ z; omega
  | succ m ih =>
    intro i hi z
    by_cases e : i = f
    · subst e
      simp (disch := omega) only [wX_findForwarder_2, nI_clamp, vp_in_nI, nI_1, nI_add, mb_lt_t, mb_lt_f, mb_le_t, mb_le_f, mb_ne, mb_lt0, mb_le0, mb_m1, mb_m1l, mb_m1g, mb_m1n, mb_x2, mb_x4, mb_x32, mb_lt_4, mb_le_4, mb_ge_4, mb_gt_4, mb_le_3, mb_gt_3, mb_le_7, mb_gt_7, mb_lt_32, mb_ge_32, mb_lt_128, mb_ge_128, mb_ge_1, mb_lt_1, mb_ge_1f, mb_lt_1t, not_true, not_false_iff, false_implies, true_implies, true_and, and_true, forall_eq, forall_const, eq_self, mb_e10, h1, h2, h3]
      exact K
    · have K' := ih (i + 1) (by omega) (by omega)
      have hno := hn i (by omega)
      by_cases k1 : kd i = 3
      · by_cases k2 : hm i = b
        · have k3 : ¬ lk i = t := fun z => hno ⟨k1, k2, z⟩
          simp (disch := omega) only [wX_findForwarder_2, nI_clamp, vp_in_nI, nI_1, nI_add, mb_lt_t, mb_lt_f, mb_le_t, mb_le_f, mb_ne, mb_lt0, mb_le0, mb_m1, mb_m1l, mb_m1g, mb_m1n, mb_x2, mb_x4, mb_x32, mb_lt_4, mb_le_4, mb_ge_4, mb_gt_4, mb_le_3, mb_gt_3, mb_le_7, mb_gt_7, mb_lt_32, mb_ge_32, mb_lt_128, mb_ge_128, mb_ge_1, mb_lt_1, mb_ge_1f, mb_lt_1t, not_true, not_false_iff, false_implies, true_implies, true_and, and_true, forall_eq, forall_const, eq_self, mb_e10, k1, k2, k3]
          exact K'
        · simp (disch := omega) only [wX_findForwarder_2, nI_clamp, vp_in_nI, nI_1, nI_add, mb_lt_t, mb_lt_f, mb_le_t, mb_le_f, mb_ne, mb_lt0, mb_le0, mb_m1, mb_m1l, mb_m1g, mb_m1n, mb_x2, mb_x4, mb_x32, mb_lt_4, mb_le_4, mb_ge_4, mb_gt_4, mb_le_3, mb_gt_3, mb_le_7, mb_gt_7, mb_lt_32, mb_ge_32, mb_lt_128, mb_ge_128, mb_ge_1, mb_lt_1, mb_ge_1f, mb_lt_1t, not_true, not_false_iff, false_implies, true_implies, true_and, and_true, forall_eq, forall_const, eq_self, mb_e10, k1, k2]
          exact K'
      · simp (disch := omega) only [wX_findForwarder_2, nI_clamp, vp_in_nI, nI_1, nI_add, mb_lt_t, mb_lt_f, mb_le_t, mb_le_f, mb_ne, mb_lt0, mb_le0, mb_m1, mb_m1l, mb_m1g, mb_m1n, mb_x2, mb_x4, mb_x32, mb_lt_4, mb_le_4, mb_ge_4, mb_gt_4, mb_le_3, mb_gt_3, mb_le_7, mb_gt_7, mb_lt_32, mb_ge_32, mb_lt_128, mb_ge_128, mb_ge_1, mb_lt_1, mb_ge_1f, mb_lt_1t, not_true, not_false_iff, false_implies, true_implies, true_and, and_true, forall_eq, forall_const, eq_self, mb_e10, k1]
        exact K'
theorem mx_miss {post : Int32 → Prop} {t b : Int32} (hc : c ≤ 32) (hn : ∀ j, j < c → ¬ (kd j = 3 ∧ hm j = b ∧ lk j = t)) (K : post (-1)) : ∀ m i : Nat, i ≤ c → c - i < m → wX_findForwarder_2 post t b (nI n) (nI p) (nI nd) (nI c) par rev st pcs regs plen pop px py kd hm lk ht sl path m (nI i) := by
  intro m
  induction m with
  | zero => intro i _ z; omega
  | succ m ih =>
    intro i hi z
    by_cases e : i = c
    · subst e
      simp (disch := omega) only [wX_findForwarder_2, nI_clamp, vp_in_nI, nI_1, nI_add, mb_lt_t, mb_lt_f, mb_le_t, mb_le_f, mb_ne, mb_lt0, mb_le0, mb_m1, mb_m1l, mb_m1g, mb_m1n, mb_x2, mb_x4, mb_x32, mb_lt_4, mb_le_4, mb_ge_4, mb_gt_4, mb_le_3, mb_gt_3, mb_le_7, mb_gt_7, mb_lt_32, mb_ge_32, mb_lt_128, mb_ge_128, mb_ge_1, mb_lt_1, mb_ge_1f, mb_lt_1t, not_true, not_false_iff, false_implies, true_implies, true_and, and_true, forall_eq, forall_const, eq_self, mb_e10]
      exact K
    · have K' := ih (i + 1) (by omega) (by omega)
      have hno := hn i (by omega)
      by_cases k1 : kd i = 3
      · by_cases k2 : hm i = b
        · have k3 : ¬ lk i = t := fun z => hno ⟨k1, k2, z⟩
          simp (disch := omega) only [wX_findForwarder_2, nI_clamp, vp_in_nI, nI_1, nI_add, mb_lt_t, mb_lt_f, mb_le_t, mb_le_f, mb_ne, mb_lt0, mb_le0, mb_m1, mb_m1l, mb_m1g, mb_m1n, mb_x2, mb_x4, mb_x32, mb_lt_4, mb_le_4, mb_ge_4, mb_gt_4, mb_le_3, mb_gt_3, mb_le_7, mb_gt_7, mb_lt_32, mb_ge_32, mb_lt_128, mb_ge_128, mb_ge_1, mb_lt_1, mb_ge_1f, mb_lt_1t, not_true, not_false_iff, false_implies, true_implies, true_and, and_true, forall_eq, forall_const, eq_self, mb_e10, k1, k2, k3]
          exact K'
        · simp (disch := omega) only [wX_findForwarder_2, nI_clamp, vp_in_nI, nI_1, nI_add, mb_lt_t, mb_lt_f, mb_le_t, mb_le_f, mb_ne, mb_lt0, mb_le0, mb_m1, mb_m1l, mb_m1g, mb_m1n, mb_x2, mb_x4, mb_x32, mb_lt_4, mb_le_4, mb_ge_4, mb_gt_4, mb_le_3, mb_gt_3, mb_le_7, mb_gt_7, mb_lt_32, mb_ge_32, mb_lt_128, mb_ge_128, mb_ge_1, mb_lt_1, mb_ge_1f, mb_lt_1t, not_true, not_false_iff, false_implies, true_implies, true_and, and_true, forall_eq, forall_const, eq_self, mb_e10, k1, k2]
          exact K'
      · simp (disch := omega) only [wX_findForwarder_2, nI_clamp, vp_in_nI, nI_1, nI_add, mb_lt_t, mb_lt_f, mb_le_t, mb_le_f, mb_ne, mb_lt0, mb_le0, mb_m1, mb_m1l, mb_m1g, mb_m1n, mb_x2, mb_x4, mb_x32, mb_lt_4, mb_le_4, mb_ge_4, mb_gt_4, mb_le_3, mb_gt_3, mb_le_7, mb_gt_7, mb_lt_32, mb_ge_32, mb_lt_128, mb_ge_128, mb_ge_1, mb_lt_1, mb_ge_1f, mb_lt_1t, not_true, not_false_iff, false_implies, true_implies, true_and, and_true, forall_eq, forall_const, eq_self, mb_e10, k1]
        exact K'
theorem my_hit {post : Int32 → SY → Prop} {t b : Int32} {f : Nat} (hf : f < c) (hc : c ≤ 32) (h1 : kd f = 3) (h2 : hm f = b) (h3 : lk f = t) (hn : ∀ j, j < f → ¬ (kd j = 3 ∧ hm j = b ∧ lk j = t)) (K : post (nI f) (nI n, nI p, nI nd, nI c, flt, par, rev, regs, pop, px, py, plen, pcs, st, kd, hm, lk, mb_ev sl, mb_od sl, ht, hx, he)) : ∀ m i : Nat, i ≤ f → f - i < m → wY_carry_81 post t b (nI n) (nI p) (nI nd) (nI c) flt par rev regs pop px py plen pcs st kd hm lk (mb_ev sl) (mb_od sl) ht hx he m (nI i) := by
  intro m
  induction m with
  | zero => intro i _ z; omega
  | succ m ih =>
    intro i hi z
    by_cases e : i = f
    · subst e
      simp (disch := omega) only [wY_carry_81, nI_clamp, vp_in_nI, nI_1, nI_add, mb_lt_t, mb_lt_f, mb_le_t, mb_le_f, mb_ne, mb_lt0, mb_le0, mb_m1, mb_m1l, mb_m1g, mb_m1n, mb_x2, mb_x4, mb_x32, mb_lt_4, mb_le_4, mb_ge_4, mb_gt_4, mb_le_3, mb_gt_3, mb_le_7, mb_gt_7, mb_lt_32, mb_ge_32, mb_lt_128, mb_ge_128, mb_ge_1, mb_lt_1, mb_ge_1f, mb_lt_1t, not_true, not_false_iff, false_implies, true_implies, true_and, and_true, forall_eq, forall_const, eq_self, mb_e10, h1, h2, h3]
      exact K
    · have K' := ih (i + 1) (by omega) (by omega)
      have hno := hn i (by omega)
      by_cases k1 : kd i = 3
      · by_cases k2 : hm i = b
        · have k3 : ¬ lk i = t := fun z => hno ⟨k1, k2, z⟩
          simp (disch := omega) only [wY_carry_81, nI_clamp, vp_in_nI, nI_1, nI_add, mb_lt_t, mb_lt_f, mb_le_t, mb_le_f, mb_ne, mb_lt0, mb_le0, mb_m1, mb_m1l, mb_m1g, mb_m1n, mb_x2, mb_x4, mb_x32, mb_lt_4, mb_le_4, mb_ge_4, mb_gt_4, mb_le_3, mb_gt_3, mb_le_7, mb_gt_7, mb_lt_32, mb_ge_32, mb_lt_128, mb_ge_128, mb_ge_1, mb_lt_1, mb_ge_1f, mb_lt_1t, not_true, not_false_iff, false_implies, true_implies, true_and, and_true, forall_eq, forall_const, eq_self, mb_e10, k1, k2, k3]
          exact K'
        · simp (disch := omega) only [wY_carry_81, nI_clamp, vp_in_nI, nI_1, nI_add, mb_lt_t, mb_lt_f, mb_le_t, mb_le_f, mb_ne, mb_lt0, mb_le0, mb_m1, mb_m1l, mb_m1g, mb_m1n, mb_x2, mb_x4, mb_x32, mb_lt_4, mb_le_4, mb_ge_4, mb_gt_4, mb_le_3, mb_gt_3, mb_le_7, mb_gt_7, mb_lt_32, mb_ge_32, mb_lt_128, mb_ge_128, mb_ge_1, mb_lt_1, mb_ge_1f, mb_lt_1t, not_true, not_false_iff, false_implies, true_implies, true_and, and_true, forall_eq, forall_const, eq_self, mb_e10, k1, k2]
          exact K'
      · simp (disch := omega) only [wY_carry_81, nI_clamp, vp_in_nI, nI_1, nI_add, mb_lt_t, mb_lt_f, mb_le_t, mb_le_f, mb_ne, mb_lt0, mb_le0, mb_m1, mb_m1l, mb_m1g, mb_m1n, mb_x2, mb_x4, mb_x32, mb_lt_4, mb_le_4, mb_ge_4, mb_gt_4, mb_le_3, mb_gt_3, mb_le_7, mb_gt_7, mb_lt_32, mb_ge_32, mb_lt_128, mb_ge_128, mb_ge_1, mb_lt_1, mb_ge_1f, mb_lt_1t, not_true, not_false_iff, false_implies, true_implies, true_and, and_true, forall_eq, forall_const, eq_self, mb_e10, k1]
        exact K'
theorem my_miss {post : Int32 → SY → Prop} {t b : Int32} (hc : c ≤ 32) (hn : ∀ j, j < c → ¬ (kd j = 3 ∧ hm j = b ∧ lk j = t)) (K : ∀ m, wY_carry_81 post t b (nI n) (nI p) (nI nd) (nI c) flt par rev regs pop px py plen pcs st kd hm lk (mb_ev sl) (mb_od sl) ht hx he (m + 1) (nI c)) : ∀ m i : Nat, i ≤ c → c - i < m → wY_carry_81 post t b (nI n) (nI p) (nI nd) (nI c) flt par rev regs pop px py plen pcs st kd hm lk (mb_ev sl) (mb_od sl) ht hx he m (nI i) := by
  intro m
  induction m with
  | zero => intro i _ z; omega
  | succ m ih =>
    intro i hi z
    by_cases e : i = c
    · subst e
      exact K m
    · have K' := ih (i + 1) (by omega) (by omega)
      have hno := hn i (by omega)
      by_cases k1 : kd i = 3
      · by_cases k2 : hm i = b
        · have k3 : ¬ lk i = t := fun z => hno ⟨k1, k2, z⟩
          simp (disch := omega) only [wY_carry_81, nI_clamp, vp_in_nI, nI_1, nI_add, mb_lt_t, mb_lt_f, mb_le_t, mb_le_f, mb_ne, mb_lt0, mb_le0, mb_m1, mb_m1l, mb_m1g, mb_m1n, mb_x2, mb_x4, mb_x32, mb_lt_4, mb_le_4, mb_ge_4, mb_gt_4, mb_le_3, mb_gt_3, mb_le_7, mb_gt_7, mb_lt_32, mb_ge_32, mb_lt_128, mb_ge_128, mb_ge_1, mb_lt_1, mb_ge_1f, mb_lt_1t, not_true, not_false_iff, false_implies, true_implies, true_and, and_true, forall_eq, forall_const, eq_self, mb_e10, k1, k2, k3]
          exact K'
        · simp (disch := omega) only [wY_carry_81, nI_clamp, vp_in_nI, nI_1, nI_add, mb_lt_t, mb_lt_f, mb_le_t, mb_le_f, mb_ne, mb_lt0, mb_le0, mb_m1, mb_m1l, mb_m1g, mb_m1n, mb_x2, mb_x4, mb_x32, mb_lt_4, mb_le_4, mb_ge_4, mb_gt_4, mb_le_3, mb_gt_3, mb_le_7, mb_gt_7, mb_lt_32, mb_ge_32, mb_lt_128, mb_ge_128, mb_ge_1, mb_lt_1, mb_ge_1f, mb_lt_1t, not_true, not_false_iff, false_implies, true_implies, true_and, and_true, forall_eq, forall_const, eq_self, mb_e10, k1, k2]
          exact K'
      · simp (disch := omega) only [wY_carry_81, nI_clamp, vp_in_nI, nI_1, nI_add, mb_lt_t, mb_lt_f, mb_le_t, mb_le_f, mb_ne, mb_lt0, mb_le0, mb_m1, mb_m1l, mb_m1g, mb_m1n, mb_x2, mb_x4, mb_x32, mb_lt_4, mb_le_4, mb_ge_4, mb_gt_4, mb_le_3, mb_gt_3, mb_le_7, mb_gt_7, mb_lt_32, mb_ge_32, mb_lt_128, mb_ge_128, mb_ge_1, mb_lt_1, mb_ge_1f, mb_lt_1t, not_true, not_false_iff, false_implies, true_implies, true_and, and_true, forall_eq, forall_const, eq_self, mb_e10, k1]
        exact K'
theorem my_end_full {post : Int32 → SY → Prop} {t b : Int32} {m : Nat} (hc : n ≤ c) (hn : c ≤ 32) (K : post (-2) (nI n, nI p, nI nd, nI c, flt, par, rev, regs, pop, px, py, plen, pcs, st, kd, hm, lk, mb_ev sl, mb_od sl, ht, hx, he)) : wY_carry_81 post t b (nI n) (nI p) (nI nd) (nI c) flt par rev regs pop px py plen pcs st kd hm lk (mb_ev sl) (mb_od sl) ht hx he (m + 1) (nI c) := by
  simp (disch := omega) only [wY_carry_81, nI_clamp, vp_in_nI, nI_1, nI_add, mb_lt_t, mb_lt_f, mb_le_t, mb_le_f, mb_ne, mb_lt0, mb_le0, mb_m1, mb_m1l, mb_m1g, mb_m1n, mb_x2, mb_x4, mb_x32, mb_lt_4, mb_le_4, mb_ge_4, mb_gt_4, mb_le_3, mb_gt_3, mb_le_7, mb_gt_7, mb_lt_32, mb_ge_32, mb_lt_128, mb_ge_128, mb_ge_1, mb_lt_1, mb_ge_1f, mb_lt_1t, not_true, not_false_iff, false_implies, true_implies, true_and, and_true, forall_eq, forall_const, eq_self, mb_e10]
  exact K
theorem my_end_mk {post : Int32 → SY → Prop} {h l : Int32} {m : Nat} (hc : c < n) (hn : n ≤ 32) (K : post (nI c) (nI n, nI p, nI nd, nI (c + 1), flt, par, rev, regs, pop, px, py, plen, pcs, st, (upd kd c 3), (upd hm c h), (upd lk c l), (mb_ev (upd (upd sl (c * 2) (-1)) (c * 2 + 1) (-1))), (mb_od (upd (upd sl (c * 2) (-1)) (c * 2 + 1) (-1))), (upd ht c 0), hx, he)) : wY_carry_81 post l h (nI n) (nI p) (nI nd) (nI c) flt par rev regs pop px py plen pcs st kd hm lk (mb_ev sl) (mb_od sl) ht hx he (m + 1) (nI c) := by
  simp (disch := omega) only [wY_carry_81, nI_clamp, vp_in_nI, nI_1, nI_add, mb_lt_t, mb_lt_f, mb_le_t, mb_le_f, mb_ne, mb_lt0, mb_le0, mb_m1, mb_m1l, mb_m1g, mb_m1n, mb_x2, mb_x4, mb_x32, mb_lt_4, mb_le_4, mb_ge_4, mb_gt_4, mb_le_3, mb_gt_3, mb_le_7, mb_gt_7, mb_lt_32, mb_ge_32, mb_lt_128, mb_ge_128, mb_ge_1, mb_lt_1, mb_ge_1f, mb_lt_1t, not_true, not_false_iff, false_implies, true_implies, true_and, and_true, forall_eq, forall_const, eq_self, mb_e10]
  exact my_mk (by omega) K
/-- where the reference isn't a forwarder that goes home, both sides look for a forwarder -/
theorem mx_go {post : Int32 → SX → Prop} {j a b : Nat} (hj : j < c) (hc : c ≤ 32) (o : mb_ob nd j (kd j) (hm j) (lk j)) (hno : ¬ (kd j = 3 ∧ hm j = nI a ∧ hm (lk j).toNatClampNeg = nI b))
    (K : wX_carry_49 post (nI j) (nI b) (nI n) (nI p) (nI nd) (nI c) par rev st pcs regs plen pop px py kd hm lk ht sl path) : wpX_carry post (nI n, nI p, nI nd, nI c, par, rev, st, pcs, regs, plen, pop, px, py, kd, hm, lk, ht, sl, path) (nI j) (nI a) (nI b) := by
  by_cases k3 : kd j = 3
  · obtain ⟨t, h1, et⟩ := mb_fw o k3
    by_cases e1 : hm j = nI a
    · have e2 : ¬ hm t = nI b := fun e => hno ⟨k3, e1, by rw [et, nI_clamp (by omega)]; exact e⟩
      simp (disch := omega) only [wpX_carry, nI_clamp, vp_in_nI, nI_1, nI_add, mb_lt_t, mb_lt_f, mb_le_t, mb_le_f, mb_ne, mb_lt0, mb_le0, mb_m1, mb_m1l, mb_m1g, mb_m1n, mb_x2, mb_x4, mb_x32, mb_lt_4, mb_le_4, mb_ge_4, mb_gt_4, mb_le_3, mb_gt_3, mb_le_7, mb_gt_7, mb_lt_32, mb_ge_32, mb_lt_128, mb_ge_128, mb_ge_1, mb_lt_1, mb_ge_1f, mb_lt_1t, not_true, not_false_iff, false_implies, true_implies, true_and, and_true, forall_eq, forall_const, eq_self, mb_e10, k3, e1, et, e2]
      exact K
    · simp (disch := omega) only [wpX_carry, nI_clamp, vp_in_nI, nI_1, nI_add, mb_lt_t, mb_lt_f, mb_le_t, mb_le_f, mb_ne, mb_lt0, mb_le0, mb_m1, mb_m1l, mb_m1g, mb_m1n, mb_x2, mb_x4, mb_x32, mb_lt_4, mb_le_4, mb_ge_4, mb_gt_4, mb_le_3, mb_gt_3, mb_le_7, mb_gt_7, mb_lt_32, mb_ge_32, mb_lt_128, mb_ge_128, mb_ge_1, mb_lt_1, mb_ge_1f, mb_lt_1t, not_true, not_false_iff, false_implies, true_implies, true_and, and_true, forall_eq, forall_const, eq_self, mb_e10, k3, e1]
      exact K
  · simp (disch := omega) only [wpX_carry, nI_clamp, vp_in_nI, nI_1, nI_add, mb_lt_t, mb_lt_f, mb_le_t, mb_le_f, mb_ne, mb_lt0, mb_le0, mb_m1, mb_m1l, mb_m1g, mb_m1n, mb_x2, mb_x4, mb_x32, mb_lt_4, mb_le_4, mb_ge_4, mb_gt_4, mb_le_3, mb_gt_3, mb_le_7, mb_gt_7, mb_lt_32, mb_ge_32, mb_lt_128, mb_ge_128, mb_ge_1, mb_lt_1, mb_ge_1f, mb_lt_1t, not_true, not_false_iff, false_implies, true_implies, true_and, and_true, forall_eq, forall_const, eq_self, mb_e10, k3]
    exact K
theorem my_go {post : Int32 → SY → Prop} {j a b : Nat} (hj : j < c) (hc : c ≤ 32) (o : mb_ob nd j (kd j) (hm j) (lk j)) (hno : ¬ (kd j = 3 ∧ hm j = nI a ∧ hm (lk j).toNatClampNeg = nI b))
    (K : ∃ m, wY_carry_81 post (nI j) (nI b) (nI n) (nI p) (nI nd) (nI c) flt par rev regs pop px py plen pcs st kd hm lk (mb_ev sl) (mb_od sl) ht hx he m 0) : wpY_carry post (nI n, nI p, nI nd, nI c, flt, par, rev, regs, pop, px, py, plen, pcs, st, kd, hm, lk, mb_ev sl, mb_od sl, ht, hx, he) (nI j) (nI a) (nI b) := by
  by_cases k3 : kd j = 3
  · obtain ⟨t, h1, et⟩ := mb_fw o k3
    by_cases e1 : hm j = nI a
    · have e2 : ¬ hm t = nI b := fun e => hno ⟨k3, e1, by rw [et, nI_clamp (by omega)]; exact e⟩
      simp (disch := omega) only [wpY_carry, nI_clamp, vp_in_nI, nI_1, nI_add, mb_lt_t, mb_lt_f, mb_le_t, mb_le_f, mb_ne, mb_lt0, mb_le0, mb_m1, mb_m1l, mb_m1g, mb_m1n, mb_x2, mb_x4, mb_x32, mb_lt_4, mb_le_4, mb_ge_4, mb_gt_4, mb_le_3, mb_gt_3, mb_le_7, mb_gt_7, mb_lt_32, mb_ge_32, mb_lt_128, mb_ge_128, mb_ge_1, mb_lt_1, mb_ge_1f, mb_lt_1t, not_true, not_false_iff, false_implies, true_implies, true_and, and_true, forall_eq, forall_const, eq_self, mb_e10, k3, e1, et, e2]
      exact K
    · simp (disch := omega) only [wpY_carry, nI_clamp, vp_in_nI, nI_1, nI_add, mb_lt_t, mb_lt_f, mb_le_t, mb_le_f, mb_ne, mb_lt0, mb_le0, mb_m1, mb_m1l, mb_m1g, mb_m1n, mb_x2, mb_x4, mb_x32, mb_lt_4, mb_le_4, mb_ge_4, mb_gt_4, mb_le_3, mb_gt_3, mb_le_7, mb_gt_7, mb_lt_32, mb_ge_32, mb_lt_128, mb_ge_128, mb_ge_1, mb_lt_1, mb_ge_1f, mb_lt_1t, not_true, not_false_iff, false_implies, true_implies, true_and, and_true, forall_eq, forall_const, eq_self, mb_e10, k3, e1]
      exact K
  · simp (disch := omega) only [wpY_carry, nI_clamp, vp_in_nI, nI_1, nI_add, mb_lt_t, mb_lt_f, mb_le_t, mb_le_f, mb_ne, mb_lt0, mb_le0, mb_m1, mb_m1l, mb_m1g, mb_m1n, mb_x2, mb_x4, mb_x32, mb_lt_4, mb_le_4, mb_ge_4, mb_gt_4, mb_le_3, mb_gt_3, mb_le_7, mb_gt_7, mb_lt_32, mb_ge_32, mb_lt_128, mb_ge_128, mb_ge_1, mb_lt_1, mb_ge_1f, mb_lt_1t, not_true, not_false_iff, false_implies, true_implies, true_and, and_true, forall_eq, forall_const, eq_self, mb_e10, k3]
    exact K
theorem mb_carry (H : mb_H n nd c kd hm lk sl) {r : Int32} (hr : mb_ref c r) {a b : Nat} (ha : a < nd) (hb : b < nd) (ht : Nat → Int32) :
    ∃ (c' : Nat) (kd' hm' lk' ht' sl' : Nat → Int32) (rX rY : Int32), mb_H n nd c' kd' hm' lk' sl' ∧ mb_E c kd hm lk c' kd' hm' lk' ∧ ((mb_ref c' rX ∧ rY = rX) ∨ (rX = -4 ∧ rY = -2)) ∧
      (∀ (p : Nat) (par rev st pcs regs plen pop px py path : Nat → Int32) (post : Int32 → SX → Prop), post rX (nI n, nI p, nI nd, nI c', par, rev, st, pcs, regs, plen, pop, px, py, kd', hm', lk', ht', sl', path) → wpX_carry post (nI n, nI p, nI nd, nI c, par, rev, st, pcs, regs, plen, pop, px, py, kd, hm, lk, ht, sl, path) r (nI a) (nI b)) ∧ (∀ (p : Nat) (flt : Int32) (par rev regs pop px py plen pcs st hx he : Nat → Int32) (post : Int32 → SY → Prop), post rY (nI n, nI p, nI nd, nI c', flt, par, rev, regs, pop, px, py, plen, pcs, st, kd', hm', lk', (mb_ev sl'), (mb_od sl'), ht', hx, he) → wpY_carry post (nI n, nI p, nI nd, nI c, flt, par, rev, regs, pop, px, py, plen, pcs, st, kd, hm, lk, mb_ev sl, mb_od sl, ht, hx, he) r (nI a) (nI b)) := by
  have hn : n ≤ 32 := H.2.1
  have hcn : c ≤ n := H.1
  rcases hr with rfl | ⟨j, hj, rfl⟩
  · refine ⟨c, kd, hm, lk, ht, sl, -1, -1, H, mb_E_rf, Or.inl ⟨Or.inl rfl, rfl⟩, ?_, ?_⟩
    · intro p par rev st pcs regs plen pop px py path post K
      exact br_t rfl K
    · intro p flt par rev regs pop px py plen pcs st hx he post K
      exact br_t rfl K
  · have o := mb_H_ob H hj
    by_cases hh : kd j = 3 ∧ hm j = nI a ∧ hm (lk j).toNatClampNeg = nI b
    · obtain ⟨k3, e1, e2⟩ := hh
      obtain ⟨t, h1, et⟩ := mb_fw o k3
      rw [et, nI_clamp (by omega)] at e2
      refine ⟨c, kd, hm, lk, ht, sl, nI t, nI t, H, mb_E_rf, Or.inl ⟨Or.inr ⟨t, by omega, rfl⟩, rfl⟩, ?_, ?_⟩
      · intro p par rev st pcs regs plen pop px py path post K
        simp (disch := omega) only [wpX_carry, nI_clamp, vp_in_nI, nI_1, nI_add, mb_lt_t, mb_lt_f, mb_le_t, mb_le_f, mb_ne, mb_lt0, mb_le0, mb_m1, mb_m1l, mb_m1g, mb_m1n, mb_x2, mb_x4, mb_x32, mb_lt_4, mb_le_4, mb_ge_4, mb_gt_4, mb_le_3, mb_gt_3, mb_le_7, mb_gt_7, mb_lt_32, mb_ge_32, mb_lt_128, mb_ge_128, mb_ge_1, mb_lt_1, mb_ge_1f, mb_lt_1t, not_true, not_false_iff, false_implies, true_implies, true_and, and_true, forall_eq, forall_const, eq_self, mb_e10, k3, e1, et, e2]
        exact K
      · intro p flt par rev regs pop px py plen pcs st hx he post K
        simp (disch := omega) only [wpY_carry, nI_clamp, vp_in_nI, nI_1, nI_add, mb_lt_t, mb_lt_f, mb_le_t, mb_le_f, mb_ne, mb_lt0, mb_le0, mb_m1, mb_m1l, mb_m1g, mb_m1n, mb_x2, mb_x4, mb_x32, mb_lt_4, mb_le_4, mb_ge_4, mb_gt_4, mb_le_3, mb_gt_3, mb_le_7, mb_gt_7, mb_lt_32, mb_ge_32, mb_lt_128, mb_ge_128, mb_ge_1, mb_lt_1, mb_ge_1f, mb_lt_1t, not_true, not_false_iff, false_implies, true_implies, true_and, and_true, forall_eq, forall_const, eq_self, mb_e10, k3, e1, et, e2]
        exact K
    · rcases mb_first (fun f => kd f = 3 ∧ hm f = nI b ∧ lk f = nI j) c with ⟨f, hf, ⟨f1, f2, f3⟩, fm⟩ | fm
      · refine ⟨c, kd, hm, lk, ht, sl, nI f, nI f, H, mb_E_rf, Or.inl ⟨Or.inr ⟨f, hf, rfl⟩, rfl⟩, ?_, ?_⟩
        · intro p par rev st pcs regs plen pop px py path post K
          refine mx_go hj (by omega) o hh ?_
          refine ⟨c + 1, mx_hit hf (by omega) f1 f2 f3 fm ?_ (c + 1) 0 (by omega) (by omega)⟩
          exact br_f (mb_n1 (by omega)) K
        · intro p flt par rev regs pop px py plen pcs st hx he post K
          refine my_go hj (by omega) o hh ?_
          exact ⟨c + 1, my_hit hf (by omega) f1 f2 f3 fm K (c + 1) 0 (by omega) (by omega)⟩
      · by_cases hfull : c < n
        · refine ⟨c + 1, upd kd c 3, upd hm c (nI b), upd lk c (nI j), upd ht c 0, upd (upd sl (c * 2) (-1)) (c * 2 + 1) (-1), nI c, nI c, mb_mk H hfull ⟨⟨b, hb, rfl⟩, Or.inr (Or.inr ⟨rfl, j, hj, rfl⟩)⟩, mb_mkE, Or.inl ⟨Or.inr ⟨c, by omega, rfl⟩, rfl⟩, ?_, ?_⟩
          · intro p par rev st pcs regs plen pop px py path post K
            refine mx_go hj (by omega) o hh ?_
            refine ⟨c + 1, mx_miss (by omega) fm ?_ (c + 1) 0 (by omega) (by omega)⟩
            refine br_t rfl ?_
            exact mx_mk hfull hn K
          · intro p flt par rev regs pop px py plen pcs st hx he post K
            refine my_go hj (by omega) o hh ?_
            exact ⟨c + 1, my_miss (by omega) fm (fun m => my_end_mk hfull hn K) (c + 1) 0 (by omega) (by omega)⟩
        · refine ⟨c, kd, hm, lk, ht, sl, -4, -2, H, mb_E_rf, Or.inr ⟨rfl, rfl⟩, ?_, ?_⟩
          · intro p par rev st pcs regs plen pop px py path post K
            refine mx_go hj (by omega) o hh ?_
            refine ⟨c + 1, mx_miss (by omega) fm ?_ (c + 1) 0 (by omega) (by omega)⟩
            refine br_t rfl ?_
            exact mx_full (by omega) (by omega) K
          · intro p flt par rev regs pop px py plen pcs st hx he post K
            refine my_go hj (by omega) o hh ?_
            exact ⟨c + 1, my_miss (by omega) fm (fun m => my_end_full (by omega) (by omega) K) (c + 1) 0 (by omega) (by omega)⟩
end
