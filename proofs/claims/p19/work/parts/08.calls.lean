section
variable {n p nd c : Nat} {par rev st pcs regs plen pop px py kd hm lk ht sl path : Nat → Int32}
theorem mb_ix4 (x : Int32) : (x < 0 ∧ ¬ 0 ≤ x) ∨ (¬ x < 0 ∧ 0 ≤ x ∧ 4 ≤ x ∧ ¬ x < 4 ∧ ¬ x ≤ 3 ∧ 3 < x) ∨ ∃ j : Nat, j < 4 ∧ x = nI j := by
  rcases mb_ix x (n := 4) (by decide) with h | ⟨a, b, e, f⟩ | h
  · exact Or.inl h
  · have g : (3 : Int32) < x := Int32.lt_of_lt_of_le (by decide) e
    exact Or.inr (Or.inl ⟨a, b, e, f, Int32.not_le.mpr g, g⟩)
  · exact Or.inr (Or.inr h)
theorem mb_ix8 (x : Int32) : (x < 0 ∧ ¬ 0 ≤ x) ∨ (¬ x < 0 ∧ 0 ≤ x ∧ ¬ x ≤ 7 ∧ 7 < x) ∨ ∃ j : Nat, j < 8 ∧ x = nI j := by
  rcases mb_ix x (n := 8) (by decide) with h | ⟨a, b, e, f⟩ | h
  · exact Or.inl h
  · have g : (7 : Int32) < x := Int32.lt_of_lt_of_le (by decide) e
    exact Or.inr (Or.inl ⟨a, b, Int32.not_le.mpr g, g⟩)
  · exact Or.inr (Or.inr h)
theorem mb_ixm (x : Int32) {n : Nat} (hn : n < 2 ^ 31) : (x < 1) ∨ (¬ x < 1 ∧ nI n ≤ x ∧ ¬ x < nI n) ∨ ∃ j : Nat, 1 ≤ j ∧ j < n ∧ x = nI j := by
  rcases mb_ix x hn with ⟨h, -⟩ | ⟨a, b, e, f⟩ | ⟨j, hj, rfl⟩
  · exact Or.inl (Int32.lt_trans h (by decide))
  · by_cases z : x < 1
    · exact Or.inl z
    · exact Or.inr (Or.inl ⟨z, e, f⟩)
  · by_cases z : j = 0
    · subst z; exact Or.inl (by decide)
    · exact Or.inr (Or.inr ⟨j, by omega, hj, rfl⟩)
/-- what every call keeps: domains stay, revoked membranes stay revoked -/
def mb_M (nd : Nat) (rev : Nat → Int32) (nd' : Nat) (rev' : Nat → Int32) : Prop := nd ≤ nd' ∧ ∀ m, m < nd → ¬ rev m = 0 → ¬ rev' m = 0
theorem mb_M_rf {nd : Nat} {rev : Nat → Int32} : mb_M nd rev nd rev := ⟨Nat.le_refl _, fun _ _ h => h⟩
theorem mx_adj {post : Int32 → Prop} {h d : Nat} (h1 : h < 4) (h2 : d < 4) (a : par h = nI d ∨ par d = nI h) (K : post 1) : wpX_areAdjacent post (nI n, nI p, nI nd, nI c, par, rev, st, pcs, regs, plen, pop, px, py, kd, hm, lk, ht, sl, path) (nI h) (nI d) := by
  by_cases e : par h = nI d
  · simp (disch := omega) only [wpX_areAdjacent, nI_clamp, vp_in_nI, nI_1, nI_add, mb_lt_t, mb_lt_f, mb_le_t, mb_le_f, mb_ne, mb_lt0, mb_le0, mb_m1, mb_m1l, mb_m1g, mb_m1n, mb_x2, mb_x4, mb_x32, mb_lt_4, mb_le_4, mb_ge_4, mb_gt_4, mb_le_3, mb_gt_3, mb_le_7, mb_gt_7, mb_lt_32, mb_ge_32, mb_lt_128, mb_ge_128, mb_ge_1, mb_lt_1, mb_ge_1f, mb_lt_1t, not_true, not_false_iff, false_implies, true_implies, true_and, and_true, forall_eq, forall_const, eq_self, mb_e10, e]
    exact K
  · have e' : par d = nI h := a.resolve_left e
    simp (disch := omega) only [wpX_areAdjacent, nI_clamp, vp_in_nI, nI_1, nI_add, mb_lt_t, mb_lt_f, mb_le_t, mb_le_f, mb_ne, mb_lt0, mb_le0, mb_m1, mb_m1l, mb_m1g, mb_m1n, mb_x2, mb_x4, mb_x32, mb_lt_4, mb_le_4, mb_ge_4, mb_gt_4, mb_le_3, mb_gt_3, mb_le_7, mb_gt_7, mb_lt_32, mb_ge_32, mb_lt_128, mb_ge_128, mb_ge_1, mb_lt_1, mb_ge_1f, mb_lt_1t, not_true, not_false_iff, false_implies, true_implies, true_and, and_true, forall_eq, forall_const, eq_self, mb_e10, e, e']
    exact K
theorem mx_nadj {post : Int32 → Prop} {h d : Nat} (h1 : h < 4) (h2 : d < 4) (a : ¬ (par h = nI d ∨ par d = nI h)) (K : post 0) : wpX_areAdjacent post (nI n, nI p, nI nd, nI c, par, rev, st, pcs, regs, plen, pop, px, py, kd, hm, lk, ht, sl, path) (nI h) (nI d) := by
  have e : ¬ par h = nI d := fun z => a (Or.inl z)
  have e' : ¬ par d = nI h := fun z => a (Or.inr z)
  simp (disch := omega) only [wpX_areAdjacent, nI_clamp, vp_in_nI, nI_1, nI_add, mb_lt_t, mb_lt_f, mb_le_t, mb_le_f, mb_ne, mb_lt0, mb_le0, mb_m1, mb_m1l, mb_m1g, mb_m1n, mb_x2, mb_x4, mb_x32, mb_lt_4, mb_le_4, mb_ge_4, mb_gt_4, mb_le_3, mb_gt_3, mb_le_7, mb_gt_7, mb_lt_32, mb_ge_32, mb_lt_128, mb_ge_128, mb_ge_1, mb_lt_1, mb_ge_1f, mb_lt_1t, not_true, not_false_iff, false_implies, true_implies, true_and, and_true, forall_eq, forall_const, eq_self, mb_e10, e, e']
  exact K
theorem mb_c_newDomain (I : mb_I n p nd c par pcs regs plen pop px py kd hm lk sl) (v1 : Int32) (rev st ht path : Nat → Int32) : ∃ (nd' c' : Nat) (par' rev' st' pcs' regs' plen' pop' px' py' kd' hm' lk' ht' sl' path' : Nat → Int32) (r : Int32), mb_I n p nd' c' par' pcs' regs' plen' pop' px' py' kd' hm' lk' sl' ∧ mb_M nd rev nd' rev' ∧ (∀ post : Int32 → St2 → Prop, post r (nI n, nI p, nI nd', nI c', par', rev', st', pcs', regs', plen', pop', px', py', kd', hm', lk', ht', sl', path') → wpX_newDomain post (nI n, nI p, nI nd, nI c, par, rev, st, pcs, regs, plen, pop, px, py, kd, hm, lk, ht, sl, path) v1) := by
  obtain ⟨H, hn8, hp8, hp, hP, hR, hG⟩ := id I
  have hn : n ≤ 32 := H.2.1
  have hcn : c ≤ n := H.1
  have hnd : nd ≤ 4 := H.2.2.2.1
  have hnd1 : 1 ≤ nd := H.2.2.1
  rcases mb_ix v1 (n := nd) (by omega) with ⟨z1, z2⟩ | ⟨z1, z2, z3, z4⟩ | ⟨j, hj, rfl⟩
  · refine ⟨nd, c, par, rev, st, pcs, regs, plen, pop, px, py, kd, hm, lk, ht, sl, path, -1, I, mb_M_rf, fun post K => ?_⟩
    simp (disch := omega) only [wpX_newDomain, wpX_domainExists, nI_clamp, vp_in_nI, nI_1, nI_add, mb_lt_t, mb_lt_f, mb_le_t, mb_le_f, mb_ne, mb_lt0, mb_le0, mb_m1, mb_m1l, mb_m1g, mb_m1n, mb_x2, mb_x4, mb_x32, mb_lt_4, mb_le_4, mb_ge_4, mb_gt_4, mb_le_3, mb_gt_3, mb_le_7, mb_gt_7, mb_lt_32, mb_ge_32, mb_lt_128, mb_ge_128, mb_ge_1, mb_lt_1, mb_ge_1f, mb_lt_1t, not_true, not_false_iff, false_implies, true_implies, true_and, and_true, forall_eq, forall_const, eq_self, mb_e10, z1, z2]
    exact K
  · refine ⟨nd, c, par, rev, st, pcs, regs, plen, pop, px, py, kd, hm, lk, ht, sl, path, -1, I, mb_M_rf, fun post K => ?_⟩
    simp (disch := omega) only [wpX_newDomain, wpX_domainExists, nI_clamp, vp_in_nI, nI_1, nI_add, mb_lt_t, mb_lt_f, mb_le_t, mb_le_f, mb_ne, mb_lt0, mb_le0, mb_m1, mb_m1l, mb_m1g, mb_m1n, mb_x2, mb_x4, mb_x32, mb_lt_4, mb_le_4, mb_ge_4, mb_gt_4, mb_le_3, mb_gt_3, mb_le_7, mb_gt_7, mb_lt_32, mb_ge_32, mb_lt_128, mb_ge_128, mb_ge_1, mb_lt_1, mb_ge_1f, mb_lt_1t, not_true, not_false_iff, false_implies, true_implies, true_and, and_true, forall_eq, forall_const, eq_self, mb_e10, z1, z2, z3, z4]
    exact K
  · by_cases h4 : nd < 4
    · by_cases hc : c < n
      · refine ⟨nd + 1, c + 1, upd par nd (nI j), rev, st, pcs, regs, plen, pop, px, py, upd kd c 2, upd hm c (nI j), upd lk c (nI nd), upd ht c 0, upd (upd sl (c * 2) (-1)) (c * 2 + 1) (-1), path, nI nd,
          ⟨mb_mk (mb_nd H h4 _) hc ⟨j, by omega, pk_us, Or.inr (Or.inl ⟨pk_us, nd, hnd1, by omega, pk_us⟩)⟩ (fun z => absurd z (by decide)), hn8, hp8, hp, mb_P_nd hP hnd1 hj, mb_R_nd (mb_R_up hR (mb_mkE (kd := kd) (lk := lk) (k := 2) (l := nI nd))) h4, hG⟩, ⟨by omega, fun _ _ h => h⟩, fun post K => ?_⟩
        simp (disch := omega) only [wpX_newDomain, wpX_domainExists, nI_clamp, vp_in_nI, nI_1, nI_add, mb_lt_t, mb_lt_f, mb_le_t, mb_le_f, mb_ne, mb_lt0, mb_le0, mb_m1, mb_m1l, mb_m1g, mb_m1n, mb_x2, mb_x4, mb_x32, mb_lt_4, mb_le_4, mb_ge_4, mb_gt_4, mb_le_3, mb_gt_3, mb_le_7, mb_gt_7, mb_lt_32, mb_ge_32, mb_lt_128, mb_ge_128, mb_ge_1, mb_lt_1, mb_ge_1f, mb_lt_1t, not_true, not_false_iff, false_implies, true_implies, true_and, and_true, forall_eq, forall_const, eq_self, mb_e10]
        exact mx_mk hc hn K
      · refine ⟨nd, c, par, rev, st, pcs, regs, plen, pop, px, py, kd, hm, lk, ht, sl, path, -1, I, mb_M_rf, fun post K => ?_⟩
        simp (disch := omega) only [wpX_newDomain, wpX_domainExists, nI_clamp, vp_in_nI, nI_1, nI_add, mb_lt_t, mb_lt_f, mb_le_t, mb_le_f, mb_ne, mb_lt0, mb_le0, mb_m1, mb_m1l, mb_m1g, mb_m1n, mb_x2, mb_x4, mb_x32, mb_lt_4, mb_le_4, mb_ge_4, mb_gt_4, mb_le_3, mb_gt_3, mb_le_7, mb_gt_7, mb_lt_32, mb_ge_32, mb_lt_128, mb_ge_128, mb_ge_1, mb_lt_1, mb_ge_1f, mb_lt_1t, not_true, not_false_iff, false_implies, true_implies, true_and, and_true, forall_eq, forall_const, eq_self, mb_e10]
        exact K
    · refine ⟨nd, c, par, rev, st, pcs, regs, plen, pop, px, py, kd, hm, lk, ht, sl, path, -1, I, mb_M_rf, fun post K => ?_⟩
      simp (disch := omega) only [wpX_newDomain, wpX_domainExists, nI_clamp, vp_in_nI, nI_1, nI_add, mb_lt_t, mb_lt_f, mb_le_t, mb_le_f, mb_ne, mb_lt0, mb_le0, mb_m1, mb_m1l, mb_m1g, mb_m1n, mb_x2, mb_x4, mb_x32, mb_lt_4, mb_le_4, mb_ge_4, mb_gt_4, mb_le_3, mb_gt_3, mb_le_7, mb_gt_7, mb_lt_32, mb_ge_32, mb_lt_128, mb_ge_128, mb_ge_1, mb_lt_1, mb_ge_1f, mb_lt_1t, not_true, not_false_iff, false_implies, true_implies, true_and, and_true, forall_eq, forall_const, eq_self, mb_e10]
      exact K
theorem mb_c_newBox (I : mb_I n p nd c par pcs regs plen pop px py kd hm lk sl) (v1 : Int32) (rev st ht path : Nat → Int32) : ∃ (nd' c' : Nat) (par' rev' st' pcs' regs' plen' pop' px' py' kd' hm' lk' ht' sl' path' : Nat → Int32) (r : Int32), mb_I n p nd' c' par' pcs' regs' plen' pop' px' py' kd' hm' lk' sl' ∧ mb_M nd rev nd' rev' ∧ (∀ post : Int32 → St2 → Prop, post r (nI n, nI p, nI nd', nI c', par', rev', st', pcs', regs', plen', pop', px', py', kd', hm', lk', ht', sl', path') → wpX_newBox post (nI n, nI p, nI nd, nI c, par, rev, st, pcs, regs, plen, pop, px, py, kd, hm, lk, ht, sl, path) v1) := by
  obtain ⟨H, hn8, hp8, hp, hP, hR, hG⟩ := id I
  have hn : n ≤ 32 := H.2.1
  have hcn : c ≤ n := H.1
  have hnd : nd ≤ 4 := H.2.2.2.1
  have hnd1 : 1 ≤ nd := H.2.2.1
  rcases mb_ix v1 (n := nd) (by omega) with ⟨z1, z2⟩ | ⟨z1, z2, z3, z4⟩ | ⟨d, hd, rfl⟩
  · refine ⟨nd, c, par, rev, st, pcs, regs, plen, pop, px, py, kd, hm, lk, ht, sl, path, -1, I, mb_M_rf, fun post K => ?_⟩
    simp (disch := omega) only [wpX_newBox, wpX_domainExists, nI_clamp, vp_in_nI, nI_1, nI_add, mb_lt_t, mb_lt_f, mb_le_t, mb_le_f, mb_ne, mb_lt0, mb_le0, mb_m1, mb_m1l, mb_m1g, mb_m1n, mb_x2, mb_x4, mb_x32, mb_lt_4, mb_le_4, mb_ge_4, mb_gt_4, mb_le_3, mb_gt_3, mb_le_7, mb_gt_7, mb_lt_32, mb_ge_32, mb_lt_128, mb_ge_128, mb_ge_1, mb_lt_1, mb_ge_1f, mb_lt_1t, not_true, not_false_iff, false_implies, true_implies, true_and, and_true, forall_eq, forall_const, eq_self, mb_e10, z1, z2]
    exact K
  · refine ⟨nd, c, par, rev, st, pcs, regs, plen, pop, px, py, kd, hm, lk, ht, sl, path, -1, I, mb_M_rf, fun post K => ?_⟩
    simp (disch := omega) only [wpX_newBox, wpX_domainExists, nI_clamp, vp_in_nI, nI_1, nI_add, mb_lt_t, mb_lt_f, mb_le_t, mb_le_f, mb_ne, mb_lt0, mb_le0, mb_m1, mb_m1l, mb_m1g, mb_m1n, mb_x2, mb_x4, mb_x32, mb_lt_4, mb_le_4, mb_ge_4, mb_gt_4, mb_le_3, mb_gt_3, mb_le_7, mb_gt_7, mb_lt_32, mb_ge_32, mb_lt_128, mb_ge_128, mb_ge_1, mb_lt_1, mb_ge_1f, mb_lt_1t, not_true, not_false_iff, false_implies, true_implies, true_and, and_true, forall_eq, forall_const, eq_self, mb_e10, z1, z2, z3, z4]
    exact K
  · by_cases hc : c < n
    · refine ⟨nd, c + 1, par, rev, st, pcs, regs, plen, pop, px, py, upd kd c 1, upd hm c (nI d), upd lk c (-1), upd ht c 0, upd (upd sl (c * 2) (-1)) (c * 2 + 1) (-1), path, nI c,
        ⟨mb_mk H hc ⟨d, hd, pk_us, Or.inl ⟨pk_us, pk_us⟩⟩ (fun z => absurd z (by decide)), hn8, hp8, hp, hP, mb_R_up hR (mb_mkE (kd := kd) (lk := lk) (k := 1) (l := -1)), hG⟩, mb_M_rf, fun post K => ?_⟩
      simp (disch := omega) only [wpX_newBox, wpX_domainExists, nI_clamp, vp_in_nI, nI_1, nI_add, mb_lt_t, mb_lt_f, mb_le_t, mb_le_f, mb_ne, mb_lt0, mb_le0, mb_m1, mb_m1l, mb_m1g, mb_m1n, mb_x2, mb_x4, mb_x32, mb_lt_4, mb_le_4, mb_ge_4, mb_gt_4, mb_le_3, mb_gt_3, mb_le_7, mb_gt_7, mb_lt_32, mb_ge_32, mb_lt_128, mb_ge_128, mb_ge_1, mb_lt_1, mb_ge_1f, mb_lt_1t, not_true, not_false_iff, false_implies, true_implies, true_and, and_true, forall_eq, forall_const, eq_self, mb_e10]
      refine mx_mk hc hn ?_
      simp (disch := omega) only [wpX_isFault, nI_clamp, vp_in_nI, nI_1, nI_add, mb_lt_t, mb_lt_f, mb_le_t, mb_le_f, mb_ne, mb_lt0, mb_le0, mb_m1, mb_m1l, mb_m1g, mb_m1n, mb_x2, mb_x4, mb_x32, mb_lt_4, mb_le_4, mb_ge_4, mb_gt_4, mb_le_3, mb_gt_3, mb_le_7, mb_gt_7, mb_lt_32, mb_ge_32, mb_lt_128, mb_ge_128, mb_ge_1, mb_lt_1, mb_ge_1f, mb_lt_1t, not_true, not_false_iff, false_implies, true_implies, true_and, and_true, forall_eq, forall_const, eq_self, mb_e10]
      exact K
    · refine ⟨nd, c, par, rev, st, pcs, regs, plen, pop, px, py, kd, hm, lk, ht, sl, path, -1, I, mb_M_rf, fun post K => ?_⟩
      simp (disch := omega) only [wpX_newBox, wpX_domainExists, nI_clamp, vp_in_nI, nI_1, nI_add, mb_lt_t, mb_lt_f, mb_le_t, mb_le_f, mb_ne, mb_lt0, mb_le0, mb_m1, mb_m1l, mb_m1g, mb_m1n, mb_x2, mb_x4, mb_x32, mb_lt_4, mb_le_4, mb_ge_4, mb_gt_4, mb_le_3, mb_gt_3, mb_le_7, mb_gt_7, mb_lt_32, mb_ge_32, mb_lt_128, mb_ge_128, mb_ge_1, mb_lt_1, mb_ge_1f, mb_lt_1t, not_true, not_false_iff, false_implies, true_implies, true_and, and_true, forall_eq, forall_const, eq_self, mb_e10]
      refine mx_full (by omega) (by omega) ?_
      simp (disch := omega) only [wpX_isFault, nI_clamp, vp_in_nI, nI_1, nI_add, mb_lt_t, mb_lt_f, mb_le_t, mb_le_f, mb_ne, mb_lt0, mb_le0, mb_m1, mb_m1l, mb_m1g, mb_m1n, mb_x2, mb_x4, mb_x32, mb_lt_4, mb_le_4, mb_ge_4, mb_gt_4, mb_le_3, mb_gt_3, mb_le_7, mb_gt_7, mb_lt_32, mb_ge_32, mb_lt_128, mb_ge_128, mb_ge_1, mb_lt_1, mb_ge_1f, mb_lt_1t, not_true, not_false_iff, false_implies, true_implies, true_and, and_true, forall_eq, forall_const, eq_self, mb_e10, show ¬ ((-1 : Int32) ≤ -4) from by decide]
      exact K
theorem mb_c_revoke (I : mb_I n p nd c par pcs regs plen pop px py kd hm lk sl) (v1 : Int32) (rev st ht path : Nat → Int32) : ∃ (nd' c' : Nat) (par' rev' st' pcs' regs' plen' pop' px' py' kd' hm' lk' ht' sl' path' : Nat → Int32) (r : Int32), mb_I n p nd' c' par' pcs' regs' plen' pop' px' py' kd' hm' lk' sl' ∧ mb_M nd rev nd' rev' ∧ (∀ post : Int32 → St2 → Prop, post r (nI n, nI p, nI nd', nI c', par', rev', st', pcs', regs', plen', pop', px', py', kd', hm', lk', ht', sl', path') → wpX_revoke post (nI n, nI p, nI nd, nI c, par, rev, st, pcs, regs, plen, pop, px, py, kd, hm, lk, ht, sl, path) v1) := by
  obtain ⟨H, hn8, hp8, hp, hP, hR, hG⟩ := id I
  have hn : n ≤ 32 := H.2.1
  have hcn : c ≤ n := H.1
  have hnd : nd ≤ 4 := H.2.2.2.1
  have hnd1 : 1 ≤ nd := H.2.2.1
  rcases mb_ixm v1 (n := nd) (by omega) with z | ⟨z1, z2, z3⟩ | ⟨j, hj1, hj, rfl⟩
  · refine ⟨nd, c, par, rev, st, pcs, regs, plen, pop, px, py, kd, hm, lk, ht, sl, path, 0, I, mb_M_rf, fun post K => ?_⟩
    simp (disch := omega) only [wpX_revoke, wpX_membraneExists, nI_clamp, vp_in_nI, nI_1, nI_add, mb_lt_t, mb_lt_f, mb_le_t, mb_le_f, mb_ne, mb_lt0, mb_le0, mb_m1, mb_m1l, mb_m1g, mb_m1n, mb_x2, mb_x4, mb_x32, mb_lt_4, mb_le_4, mb_ge_4, mb_gt_4, mb_le_3, mb_gt_3, mb_le_7, mb_gt_7, mb_lt_32, mb_ge_32, mb_lt_128, mb_ge_128, mb_ge_1, mb_lt_1, mb_ge_1f, mb_lt_1t, not_true, not_false_iff, false_implies, true_implies, true_and, and_true, forall_eq, forall_const, eq_self, mb_e10, z]
    exact K
  · refine ⟨nd, c, par, rev, st, pcs, regs, plen, pop, px, py, kd, hm, lk, ht, sl, path, 0, I, mb_M_rf, fun post K => ?_⟩
    simp (disch := omega) only [wpX_revoke, wpX_membraneExists, nI_clamp, vp_in_nI, nI_1, nI_add, mb_lt_t, mb_lt_f, mb_le_t, mb_le_f, mb_ne, mb_lt0, mb_le0, mb_m1, mb_m1l, mb_m1g, mb_m1n, mb_x2, mb_x4, mb_x32, mb_lt_4, mb_le_4, mb_ge_4, mb_gt_4, mb_le_3, mb_gt_3, mb_le_7, mb_gt_7, mb_lt_32, mb_ge_32, mb_lt_128, mb_ge_128, mb_ge_1, mb_lt_1, mb_ge_1f, mb_lt_1t, not_true, not_false_iff, false_implies, true_implies, true_and, and_true, forall_eq, forall_const, eq_self, mb_e10, z1, z2, z3]
    exact K
  · by_cases r : rev j = 0
    · refine ⟨nd, c, par, upd rev j 1, st, pcs, regs, plen, pop, px, py, kd, hm, lk, ht, sl, path, 1, I, ⟨Nat.le_refl _, fun m _ h => mb_rm_set rev j m h⟩, fun post K => ?_⟩
      simp (disch := omega) only [wpX_revoke, wpX_membraneExists, nI_clamp, vp_in_nI, nI_1, nI_add, mb_lt_t, mb_lt_f, mb_le_t, mb_le_f, mb_ne, mb_lt0, mb_le0, mb_m1, mb_m1l, mb_m1g, mb_m1n, mb_x2, mb_x4, mb_x32, mb_lt_4, mb_le_4, mb_ge_4, mb_gt_4, mb_le_3, mb_gt_3, mb_le_7, mb_gt_7, mb_lt_32, mb_ge_32, mb_lt_128, mb_ge_128, mb_ge_1, mb_lt_1, mb_ge_1f, mb_lt_1t, not_true, not_false_iff, false_implies, true_implies, true_and, and_true, forall_eq, forall_const, eq_self, mb_e10, r]
      exact K
    · refine ⟨nd, c, par, rev, st, pcs, regs, plen, pop, px, py, kd, hm, lk, ht, sl, path, 0, I, mb_M_rf, fun post K => ?_⟩
      simp (disch := omega) only [wpX_revoke, wpX_membraneExists, nI_clamp, vp_in_nI, nI_1, nI_add, mb_lt_t, mb_lt_f, mb_le_t, mb_le_f, mb_ne, mb_lt0, mb_le0, mb_m1, mb_m1l, mb_m1g, mb_m1n, mb_x2, mb_x4, mb_x32, mb_lt_4, mb_le_4, mb_ge_4, mb_gt_4, mb_le_3, mb_gt_3, mb_le_7, mb_gt_7, mb_lt_32, mb_ge_32, mb_lt_128, mb_ge_128, mb_ge_1, mb_lt_1, mb_ge_1f, mb_lt_1t, not_true, not_false_iff, false_implies, true_implies, true_and, and_true, forall_eq, forall_const, eq_self, mb_e10, r]
      exact K
theorem mb_c_emit (I : mb_I n p nd c par pcs regs plen pop px py kd hm lk sl) (v1 : Int32) (v2 : Int32) (v3 : Int32) (v4 : Int32) (rev st ht path : Nat → Int32) : ∃ (nd' c' : Nat) (par' rev' st' pcs' regs' plen' pop' px' py' kd' hm' lk' ht' sl' path' : Nat → Int32) (r : Int32), mb_I n p nd' c' par' pcs' regs' plen' pop' px' py' kd' hm' lk' sl' ∧ mb_M nd rev nd' rev' ∧ (∀ post : Int32 → St2 → Prop, post r (nI n, nI p, nI nd', nI c', par', rev', st', pcs', regs', plen', pop', px', py', kd', hm', lk', ht', sl', path') → wpX_emit post (nI n, nI p, nI nd, nI c, par, rev, st, pcs, regs, plen, pop, px, py, kd, hm, lk, ht, sl, path) v1 v2 v3 v4) := by
  obtain ⟨H, hn8, hp8, hp, hP, hR, hG⟩ := id I
  have hn : n ≤ 32 := H.2.1
  have hcn : c ≤ n := H.1
  have hnd : nd ≤ 4 := H.2.2.2.1
  have hnd1 : 1 ≤ nd := H.2.2.1
  rcases mb_ix v1 (n := nd) (by omega) with ⟨z1, z2⟩ | ⟨z1, z2, z3, z4⟩ | ⟨d, hd, rfl⟩
  · refine ⟨nd, c, par, rev, st, pcs, regs, plen, pop, px, py, kd, hm, lk, ht, sl, path, 0, I, mb_M_rf, fun post K => ?_⟩
    simp (disch := omega) only [wpX_emit, wpX_domainExists, wpX_isRegister, nI_clamp, vp_in_nI, nI_1, nI_add, mb_lt_t, mb_lt_f, mb_le_t, mb_le_f, mb_ne, mb_lt0, mb_le0, mb_m1, mb_m1l, mb_m1g, mb_m1n, mb_x2, mb_x4, mb_x32, mb_lt_4, mb_le_4, mb_ge_4, mb_gt_4, mb_le_3, mb_gt_3, mb_le_7, mb_gt_7, mb_lt_32, mb_ge_32, mb_lt_128, mb_ge_128, mb_ge_1, mb_lt_1, mb_ge_1f, mb_lt_1t, not_true, not_false_iff, false_implies, true_implies, true_and, and_true, forall_eq, forall_const, eq_self, mb_e10, z1, z2]
    exact K
  · refine ⟨nd, c, par, rev, st, pcs, regs, plen, pop, px, py, kd, hm, lk, ht, sl, path, 0, I, mb_M_rf, fun post K => ?_⟩
    simp (disch := omega) only [wpX_emit, wpX_domainExists, wpX_isRegister, nI_clamp, vp_in_nI, nI_1, nI_add, mb_lt_t, mb_lt_f, mb_le_t, mb_le_f, mb_ne, mb_lt0, mb_le0, mb_m1, mb_m1l, mb_m1g, mb_m1n, mb_x2, mb_x4, mb_x32, mb_lt_4, mb_le_4, mb_ge_4, mb_gt_4, mb_le_3, mb_gt_3, mb_le_7, mb_gt_7, mb_lt_32, mb_ge_32, mb_lt_128, mb_ge_128, mb_ge_1, mb_lt_1, mb_ge_1f, mb_lt_1t, not_true, not_false_iff, false_implies, true_implies, true_and, and_true, forall_eq, forall_const, eq_self, mb_e10, z1, z2, z3, z4]
    exact K
  · rcases mb_ix8 v2 with ⟨z1, z2⟩ | ⟨z1, z2, z3, z4⟩ | ⟨o, ho, rfl⟩
    · refine ⟨nd, c, par, rev, st, pcs, regs, plen, pop, px, py, kd, hm, lk, ht, sl, path, 0, I, mb_M_rf, fun post K => ?_⟩
      simp (disch := omega) only [wpX_emit, wpX_domainExists, wpX_isRegister, nI_clamp, vp_in_nI, nI_1, nI_add, mb_lt_t, mb_lt_f, mb_le_t, mb_le_f, mb_ne, mb_lt0, mb_le0, mb_m1, mb_m1l, mb_m1g, mb_m1n, mb_x2, mb_x4, mb_x32, mb_lt_4, mb_le_4, mb_ge_4, mb_gt_4, mb_le_3, mb_gt_3, mb_le_7, mb_gt_7, mb_lt_32, mb_ge_32, mb_lt_128, mb_ge_128, mb_ge_1, mb_lt_1, mb_ge_1f, mb_lt_1t, not_true, not_false_iff, false_implies, true_implies, true_and, and_true, forall_eq, forall_const, eq_self, mb_e10, z1, z2]
      exact K
    · refine ⟨nd, c, par, rev, st, pcs, regs, plen, pop, px, py, kd, hm, lk, ht, sl, path, 0, I, mb_M_rf, fun post K => ?_⟩
      simp (disch := omega) only [wpX_emit, wpX_domainExists, wpX_isRegister, nI_clamp, vp_in_nI, nI_1, nI_add, mb_lt_t, mb_lt_f, mb_le_t, mb_le_f, mb_ne, mb_lt0, mb_le0, mb_m1, mb_m1l, mb_m1g, mb_m1n, mb_x2, mb_x4, mb_x32, mb_lt_4, mb_le_4, mb_ge_4, mb_gt_4, mb_le_3, mb_gt_3, mb_le_7, mb_gt_7, mb_lt_32, mb_ge_32, mb_lt_128, mb_ge_128, mb_ge_1, mb_lt_1, mb_ge_1f, mb_lt_1t, not_true, not_false_iff, false_implies, true_implies, true_and, and_true, forall_eq, forall_const, eq_self, mb_e10, z1, z2, z3, z4]
      exact K
    · rcases mb_ix4 v3 with ⟨z1, z2⟩ | ⟨z1, z2, z3, z4, z5, z6⟩ | ⟨x, hx4, rfl⟩
      · refine ⟨nd, c, par, rev, st, pcs, regs, plen, pop, px, py, kd, hm, lk, ht, sl, path, 0, I, mb_M_rf, fun post K => ?_⟩
        simp (disch := omega) only [wpX_emit, wpX_domainExists, wpX_isRegister, nI_clamp, vp_in_nI, nI_1, nI_add, mb_lt_t, mb_lt_f, mb_le_t, mb_le_f, mb_ne, mb_lt0, mb_le0, mb_m1, mb_m1l, mb_m1g, mb_m1n, mb_x2, mb_x4, mb_x32, mb_lt_4, mb_le_4, mb_ge_4, mb_gt_4, mb_le_3, mb_gt_3, mb_le_7, mb_gt_7, mb_lt_32, mb_ge_32, mb_lt_128, mb_ge_128, mb_ge_1, mb_lt_1, mb_ge_1f, mb_lt_1t, not_true, not_false_iff, false_implies, true_implies, true_and, and_true, forall_eq, forall_const, eq_self, mb_e10, z1, z2]
        exact K
      · refine ⟨nd, c, par, rev, st, pcs, regs, plen, pop, px, py, kd, hm, lk, ht, sl, path, 0, I, mb_M_rf, fun post K => ?_⟩
        simp (disch := omega) only [wpX_emit, wpX_domainExists, wpX_isRegister, nI_clamp, vp_in_nI, nI_1, nI_add, mb_lt_t, mb_lt_f, mb_le_t, mb_le_f, mb_ne, mb_lt0, mb_le0, mb_m1, mb_m1l, mb_m1g, mb_m1n, mb_x2, mb_x4, mb_x32, mb_lt_4, mb_le_4, mb_ge_4, mb_gt_4, mb_le_3, mb_gt_3, mb_le_7, mb_gt_7, mb_lt_32, mb_ge_32, mb_lt_128, mb_ge_128, mb_ge_1, mb_lt_1, mb_ge_1f, mb_lt_1t, not_true, not_false_iff, false_implies, true_implies, true_and, and_true, forall_eq, forall_const, eq_self, mb_e10, z1, z2, z3, z4, z5, z6]
        exact K
      · rcases mb_ix4 v4 with ⟨z1, z2⟩ | ⟨z1, z2, z3, z4, z5, z6⟩ | ⟨y, hy4, rfl⟩
        · refine ⟨nd, c, par, rev, st, pcs, regs, plen, pop, px, py, kd, hm, lk, ht, sl, path, 0, I, mb_M_rf, fun post K => ?_⟩
          simp (disch := omega) only [wpX_emit, wpX_domainExists, wpX_isRegister, nI_clamp, vp_in_nI, nI_1, nI_add, mb_lt_t, mb_lt_f, mb_le_t, mb_le_f, mb_ne, mb_lt0, mb_le0, mb_m1, mb_m1l, mb_m1g, mb_m1n, mb_x2, mb_x4, mb_x32, mb_lt_4, mb_le_4, mb_ge_4, mb_gt_4, mb_le_3, mb_gt_3, mb_le_7, mb_gt_7, mb_lt_32, mb_ge_32, mb_lt_128, mb_ge_128, mb_ge_1, mb_lt_1, mb_ge_1f, mb_lt_1t, not_true, not_false_iff, false_implies, true_implies, true_and, and_true, forall_eq, forall_const, eq_self, mb_e10, z1, z2]
          exact K
        · refine ⟨nd, c, par, rev, st, pcs, regs, plen, pop, px, py, kd, hm, lk, ht, sl, path, 0, I, mb_M_rf, fun post K => ?_⟩
          simp (disch := omega) only [wpX_emit, wpX_domainExists, wpX_isRegister, nI_clamp, vp_in_nI, nI_1, nI_add, mb_lt_t, mb_lt_f, mb_le_t, mb_le_f, mb_ne, mb_lt0, mb_le0, mb_m1, mb_m1l, mb_m1g, mb_m1n, mb_x2, mb_x4, mb_x32, mb_lt_4, mb_le_4, mb_ge_4, mb_gt_4, mb_le_3, mb_gt_3, mb_le_7, mb_gt_7, mb_lt_32, mb_ge_32, mb_lt_128, mb_ge_128, mb_ge_1, mb_lt_1, mb_ge_1f, mb_lt_1t, not_true, not_false_iff, false_implies, true_implies, true_and, and_true, forall_eq, forall_const, eq_self, mb_e10, z1, z2, z3, z4, z5, z6]
          exact K
        · obtain ⟨l, q, a1, a2, a3, a4, -⟩ := hG d (by omega)
          by_cases hl : l < p
          · refine ⟨nd, c, par, rev, st, pcs, regs, upd plen d (nI (l + 1)), upd pop (d * 32 + l) (nI o), upd px (d * 32 + l) (nI x), upd py (d * 32 + l) (nI y), kd, hm, lk, ht, sl, path, 1, ⟨H, hn8, hp8, hp, hP, hR, mb_G_emit hG (by omega) a3 (by omega) ho hx4 hy4⟩, mb_M_rf, fun post K => ?_⟩
            simp (disch := omega) only [wpX_emit, wpX_domainExists, wpX_isRegister, nI_clamp, vp_in_nI, nI_1, nI_add, mb_lt_t, mb_lt_f, mb_le_t, mb_le_f, mb_ne, mb_lt0, mb_le0, mb_m1, mb_m1l, mb_m1g, mb_m1n, mb_x2, mb_x4, mb_x32, mb_lt_4, mb_le_4, mb_ge_4, mb_gt_4, mb_le_3, mb_gt_3, mb_le_7, mb_gt_7, mb_lt_32, mb_ge_32, mb_lt_128, mb_ge_128, mb_ge_1, mb_lt_1, mb_ge_1f, mb_lt_1t, not_true, not_false_iff, false_implies, true_implies, true_and, and_true, forall_eq, forall_const, eq_self, mb_e10, a3]
            exact K
          · refine ⟨nd, c, par, rev, st, pcs, regs, plen, pop, px, py, kd, hm, lk, ht, sl, path, 0, I, mb_M_rf, fun post K => ?_⟩
            simp (disch := omega) only [wpX_emit, wpX_domainExists, wpX_isRegister, nI_clamp, vp_in_nI, nI_1, nI_add, mb_lt_t, mb_lt_f, mb_le_t, mb_le_f, mb_ne, mb_lt0, mb_le0, mb_m1, mb_m1l, mb_m1g, mb_m1n, mb_x2, mb_x4, mb_x32, mb_lt_4, mb_le_4, mb_ge_4, mb_gt_4, mb_le_3, mb_gt_3, mb_le_7, mb_gt_7, mb_lt_32, mb_ge_32, mb_lt_128, mb_ge_128, mb_ge_1, mb_lt_1, mb_ge_1f, mb_lt_1t, not_true, not_false_iff, false_implies, true_implies, true_and, and_true, forall_eq, forall_const, eq_self, mb_e10, a3]
            exact K
theorem mb_c_give (I : mb_I n p nd c par pcs regs plen pop px py kd hm lk sl) (v1 : Int32) (v2 : Int32) (v3 : Int32) (rev st ht path : Nat → Int32) : ∃ (nd' c' : Nat) (par' rev' st' pcs' regs' plen' pop' px' py' kd' hm' lk' ht' sl' path' : Nat → Int32) (r : Int32), mb_I n p nd' c' par' pcs' regs' plen' pop' px' py' kd' hm' lk' sl' ∧ mb_M nd rev nd' rev' ∧ (∀ post : Int32 → St2 → Prop, post r (nI n, nI p, nI nd', nI c', par', rev', st', pcs', regs', plen', pop', px', py', kd', hm', lk', ht', sl', path') → wpX_give post (nI n, nI p, nI nd, nI c, par, rev, st, pcs, regs, plen, pop, px, py, kd, hm, lk, ht, sl, path) v1 v2 v3) := by
  obtain ⟨H, hn8, hp8, hp, hP, hR, hG⟩ := id I
  have hn : n ≤ 32 := H.2.1
  have hcn : c ≤ n := H.1
  have hnd : nd ≤ 4 := H.2.2.2.1
  have hnd1 : 1 ≤ nd := H.2.2.1
  have m1 : (-1 : Int32) ≤ -1 := by decide
  have m3 : ¬ (-1 : Int32) ≤ -3 := by decide
  have m4 : ¬ (-1 : Int32) ≤ -4 := by decide
  rcases mb_ix v1 (n := nd) (by omega) with ⟨z1, z2⟩ | ⟨z1, z2, z3, z4⟩ | ⟨d, hd, rfl⟩
  · refine ⟨nd, c, par, rev, st, pcs, regs, plen, pop, px, py, kd, hm, lk, ht, sl, path, 0, I, mb_M_rf, fun post K => ?_⟩
    simp (disch := omega) only [wpX_give, wpX_domainExists, wpX_isRegister, nI_clamp, vp_in_nI, nI_1, nI_add, mb_lt_t, mb_lt_f, mb_le_t, mb_le_f, mb_ne, mb_lt0, mb_le0, mb_m1, mb_m1l, mb_m1g, mb_m1n, mb_x2, mb_x4, mb_x32, mb_lt_4, mb_le_4, mb_ge_4, mb_gt_4, mb_le_3, mb_gt_3, mb_le_7, mb_gt_7, mb_lt_32, mb_ge_32, mb_lt_128, mb_ge_128, mb_ge_1, mb_lt_1, mb_ge_1f, mb_lt_1t, not_true, not_false_iff, false_implies, true_implies, true_and, and_true, forall_eq, forall_const, eq_self, mb_e10, z1, z2]
    exact K
  · refine ⟨nd, c, par, rev, st, pcs, regs, plen, pop, px, py, kd, hm, lk, ht, sl, path, 0, I, mb_M_rf, fun post K => ?_⟩
    simp (disch := omega) only [wpX_give, wpX_domainExists, wpX_isRegister, nI_clamp, vp_in_nI, nI_1, nI_add, mb_lt_t, mb_lt_f, mb_le_t, mb_le_f, mb_ne, mb_lt0, mb_le0, mb_m1, mb_m1l, mb_m1g, mb_m1n, mb_x2, mb_x4, mb_x32, mb_lt_4, mb_le_4, mb_ge_4, mb_gt_4, mb_le_3, mb_gt_3, mb_le_7, mb_gt_7, mb_lt_32, mb_ge_32, mb_lt_128, mb_ge_128, mb_ge_1, mb_lt_1, mb_ge_1f, mb_lt_1t, not_true, not_false_iff, false_implies, true_implies, true_and, and_true, forall_eq, forall_const, eq_self, mb_e10, z1, z2, z3, z4]
    exact K
  · rcases mb_ix4 v2 with ⟨z1, z2⟩ | ⟨z1, z2, z3, z4, z5, z6⟩ | ⟨r, hr, rfl⟩
    · refine ⟨nd, c, par, rev, st, pcs, regs, plen, pop, px, py, kd, hm, lk, ht, sl, path, 0, I, mb_M_rf, fun post K => ?_⟩
      simp (disch := omega) only [wpX_give, wpX_domainExists, wpX_isRegister, nI_clamp, vp_in_nI, nI_1, nI_add, mb_lt_t, mb_lt_f, mb_le_t, mb_le_f, mb_ne, mb_lt0, mb_le0, mb_m1, mb_m1l, mb_m1g, mb_m1n, mb_x2, mb_x4, mb_x32, mb_lt_4, mb_le_4, mb_ge_4, mb_gt_4, mb_le_3, mb_gt_3, mb_le_7, mb_gt_7, mb_lt_32, mb_ge_32, mb_lt_128, mb_ge_128, mb_ge_1, mb_lt_1, mb_ge_1f, mb_lt_1t, not_true, not_false_iff, false_implies, true_implies, true_and, and_true, forall_eq, forall_const, eq_self, mb_e10, z1, z2]
      exact K
    · refine ⟨nd, c, par, rev, st, pcs, regs, plen, pop, px, py, kd, hm, lk, ht, sl, path, 0, I, mb_M_rf, fun post K => ?_⟩
      simp (disch := omega) only [wpX_give, wpX_domainExists, wpX_isRegister, nI_clamp, vp_in_nI, nI_1, nI_add, mb_lt_t, mb_lt_f, mb_le_t, mb_le_f, mb_ne, mb_lt0, mb_le0, mb_m1, mb_m1l, mb_m1g, mb_m1n, mb_x2, mb_x4, mb_x32, mb_lt_4, mb_le_4, mb_ge_4, mb_gt_4, mb_le_3, mb_gt_3, mb_le_7, mb_gt_7, mb_lt_32, mb_ge_32, mb_lt_128, mb_ge_128, mb_ge_1, mb_lt_1, mb_ge_1f, mb_lt_1t, not_true, not_false_iff, false_implies, true_implies, true_and, and_true, forall_eq, forall_const, eq_self, mb_e10, z1, z2, z3, z4, z5, z6]
      exact K
    · by_cases w : v3 = -1
      · subst w
        refine ⟨nd, c, par, rev, st, pcs, upd regs (d * 4 + r) (-1), plen, pop, px, py, kd, hm, lk, ht, sl, path, 1, ⟨H, hn8, hp8, hp, hP, mb_R_set hR hd hr (Or.inl rfl), hG⟩, mb_M_rf, fun post K => ?_⟩
        simp (disch := omega) only [wpX_give, wpX_domainExists, wpX_isRegister, nI_clamp, vp_in_nI, nI_1, nI_add, mb_lt_t, mb_lt_f, mb_le_t, mb_le_f, mb_ne, mb_lt0, mb_le0, mb_m1, mb_m1l, mb_m1g, mb_m1n, mb_x2, mb_x4, mb_x32, mb_lt_4, mb_le_4, mb_ge_4, mb_gt_4, mb_le_3, mb_gt_3, mb_le_7, mb_gt_7, mb_lt_32, mb_ge_32, mb_lt_128, mb_ge_128, mb_ge_1, mb_lt_1, mb_ge_1f, mb_lt_1t, not_true, not_false_iff, false_implies, true_implies, true_and, and_true, forall_eq, forall_const, eq_self, mb_e10, wX_give_43, wpX_isFault, m1]
        exact K
      · rcases mb_ix v3 (n := c) (by omega) with ⟨z1, z2⟩ | ⟨z1, z2, z3, z4⟩ | ⟨j, hj, rfl⟩
        · refine ⟨nd, c, par, rev, st, pcs, regs, plen, pop, px, py, kd, hm, lk, ht, sl, path, 0, I, mb_M_rf, fun post K => ?_⟩
          simp (disch := omega) only [wpX_give, wpX_domainExists, wpX_isRegister, nI_clamp, vp_in_nI, nI_1, nI_add, mb_lt_t, mb_lt_f, mb_le_t, mb_le_f, mb_ne, mb_lt0, mb_le0, mb_m1, mb_m1l, mb_m1g, mb_m1n, mb_x2, mb_x4, mb_x32, mb_lt_4, mb_le_4, mb_ge_4, mb_gt_4, mb_le_3, mb_gt_3, mb_le_7, mb_gt_7, mb_lt_32, mb_ge_32, mb_lt_128, mb_ge_128, mb_ge_1, mb_lt_1, mb_ge_1f, mb_lt_1t, not_true, not_false_iff, false_implies, true_implies, true_and, and_true, forall_eq, forall_const, eq_self, mb_e10, wpX_objectExists, w, z1, z2]
          exact K
        · refine ⟨nd, c, par, rev, st, pcs, regs, plen, pop, px, py, kd, hm, lk, ht, sl, path, 0, I, mb_M_rf, fun post K => ?_⟩
          simp (disch := omega) only [wpX_give, wpX_domainExists, wpX_isRegister, nI_clamp, vp_in_nI, nI_1, nI_add, mb_lt_t, mb_lt_f, mb_le_t, mb_le_f, mb_ne, mb_lt0, mb_le0, mb_m1, mb_m1l, mb_m1g, mb_m1n, mb_x2, mb_x4, mb_x32, mb_lt_4, mb_le_4, mb_ge_4, mb_gt_4, mb_le_3, mb_gt_3, mb_le_7, mb_gt_7, mb_lt_32, mb_ge_32, mb_lt_128, mb_ge_128, mb_ge_1, mb_lt_1, mb_ge_1f, mb_lt_1t, not_true, not_false_iff, false_implies, true_implies, true_and, and_true, forall_eq, forall_const, eq_self, mb_e10, wpX_objectExists, w, z1, z2, z3, z4]
          exact K
        · obtain ⟨h, hh, ehm, -⟩ := mb_H_ob H hj
          by_cases hne : h = d
          · subst hne
            refine ⟨nd, c, par, rev, st, pcs, upd regs (h * 4 + r) (nI j), plen, pop, px, py, kd, hm, lk, ht, sl, path, 1, ⟨H, hn8, hp8, hp, hP, mb_R_set hR hd hr (Or.inr ⟨j, hj, rfl, ehm⟩), hG⟩, mb_M_rf, fun post K => ?_⟩
            simp (disch := omega) only [wpX_give, wpX_domainExists, wpX_isRegister, nI_clamp, vp_in_nI, nI_1, nI_add, mb_lt_t, mb_lt_f, mb_le_t, mb_le_f, mb_ne, mb_lt0, mb_le0, mb_m1, mb_m1l, mb_m1g, mb_m1n, mb_x2, mb_x4, mb_x32, mb_lt_4, mb_le_4, mb_ge_4, mb_gt_4, mb_le_3, mb_gt_3, mb_le_7, mb_gt_7, mb_lt_32, mb_ge_32, mb_lt_128, mb_ge_128, mb_ge_1, mb_lt_1, mb_ge_1f, mb_lt_1t, not_true, not_false_iff, false_implies, true_implies, true_and, and_true, forall_eq, forall_const, eq_self, mb_e10, wpX_objectExists, wpX_bring, wX_give_43, wpX_isFault, ehm]
            exact K
          · by_cases a : par h = nI d ∨ par d = nI h
            · have hmx := mb_mx_lt (d := 4) (show h < 4 by omega) (show d < 4 by omega)
              by_cases rv : rev (mb_mx h d) = 0
              · obtain ⟨c1, kd1, hm1, lk1, ht1, sl1, aX, H1, E1, F1, hA, cX⟩ := mb_carry H (Or.inr ⟨j, hj, rfl, ehm⟩) hh hd a ht
                have hc1 : c1 ≤ 32 := Nat.le_trans H1.1 H1.2.1
                rcases hA with r1 | rfl
                · have q1 := mb_rf_le r1 hc1
                  refine ⟨nd, c1, par, rev, st, pcs, upd regs (d * 4 + r) aX, plen, pop, px, py, kd1, hm1, lk1, ht1, sl1, path, 1, ⟨H1, hn8, hp8, hp, hP, mb_R_set (mb_R_up hR E1) hd hr r1, hG⟩, mb_M_rf, fun post K => ?_⟩
                  simp (disch := omega) only [wpX_give, wpX_domainExists, wpX_isRegister, wpX_objectExists, wpX_bring, nI_clamp, vp_in_nI, nI_1, nI_add, mb_lt_t, mb_lt_f, mb_le_t, mb_le_f, mb_ne, mb_lt0, mb_le0, mb_m1, mb_m1l, mb_m1g, mb_m1n, mb_x2, mb_x4, mb_x32, mb_lt_4, mb_le_4, mb_ge_4, mb_gt_4, mb_le_3, mb_gt_3, mb_le_7, mb_gt_7, mb_lt_32, mb_ge_32, mb_lt_128, mb_ge_128, mb_ge_1, mb_lt_1, mb_ge_1f, mb_lt_1t, not_true, not_false_iff, false_implies, true_implies, true_and, and_true, forall_eq, forall_const, eq_self, mb_e10, ehm]
                  refine mx_adj (by omega) (by omega) a ?_
                  simp (disch := omega) only [mx_mbE, nI_clamp, vp_in_nI, nI_1, nI_add, mb_lt_t, mb_lt_f, mb_le_t, mb_le_f, mb_ne, mb_lt0, mb_le0, mb_m1, mb_m1l, mb_m1g, mb_m1n, mb_x2, mb_x4, mb_x32, mb_lt_4, mb_le_4, mb_ge_4, mb_gt_4, mb_le_3, mb_gt_3, mb_le_7, mb_gt_7, mb_lt_32, mb_ge_32, mb_lt_128, mb_ge_128, mb_ge_1, mb_lt_1, mb_ge_1f, mb_lt_1t, not_true, not_false_iff, false_implies, true_implies, true_and, and_true, forall_eq, forall_const, eq_self, mb_e10, rv]
                  refine cX p rev st pcs regs plen pop px py path _ ?_
                  simp (disch := omega) only [wX_give_43, wpX_isFault, nI_clamp, vp_in_nI, nI_1, nI_add, mb_lt_t, mb_lt_f, mb_le_t, mb_le_f, mb_ne, mb_lt0, mb_le0, mb_m1, mb_m1l, mb_m1g, mb_m1n, mb_x2, mb_x4, mb_x32, mb_lt_4, mb_le_4, mb_ge_4, mb_gt_4, mb_le_3, mb_gt_3, mb_le_7, mb_gt_7, mb_lt_32, mb_ge_32, mb_lt_128, mb_ge_128, mb_ge_1, mb_lt_1, mb_ge_1f, mb_lt_1t, not_true, not_false_iff, false_implies, true_implies, true_and, and_true, forall_eq, forall_const, eq_self, mb_e10, q1]
                  exact K
                · refine ⟨nd, c1, par, rev, st, pcs, regs, plen, pop, px, py, kd1, hm1, lk1, ht1, sl1, path, 0, ⟨H1, hn8, hp8, hp, hP, mb_R_up hR E1, hG⟩, mb_M_rf, fun post K => ?_⟩
                  simp (disch := omega) only [wpX_give, wpX_domainExists, wpX_isRegister, wpX_objectExists, wpX_bring, nI_clamp, vp_in_nI, nI_1, nI_add, mb_lt_t, mb_lt_f, mb_le_t, mb_le_f, mb_ne, mb_lt0, mb_le0, mb_m1, mb_m1l, mb_m1g, mb_m1n, mb_x2, mb_x4, mb_x32, mb_lt_4, mb_le_4, mb_ge_4, mb_gt_4, mb_le_3, mb_gt_3, mb_le_7, mb_gt_7, mb_lt_32, mb_ge_32, mb_lt_128, mb_ge_128, mb_ge_1, mb_lt_1, mb_ge_1f, mb_lt_1t, not_true, not_false_iff, false_implies, true_implies, true_and, and_true, forall_eq, forall_const, eq_self, mb_e10, ehm]
                  refine mx_adj (by omega) (by omega) a ?_
                  simp (disch := omega) only [mx_mbE, nI_clamp, vp_in_nI, nI_1, nI_add, mb_lt_t, mb_lt_f, mb_le_t, mb_le_f, mb_ne, mb_lt0, mb_le0, mb_m1, mb_m1l, mb_m1g, mb_m1n, mb_x2, mb_x4, mb_x32, mb_lt_4, mb_le_4, mb_ge_4, mb_gt_4, mb_le_3, mb_gt_3, mb_le_7, mb_gt_7, mb_lt_32, mb_ge_32, mb_lt_128, mb_ge_128, mb_ge_1, mb_lt_1, mb_ge_1f, mb_lt_1t, not_true, not_false_iff, false_implies, true_implies, true_and, and_true, forall_eq, forall_const, eq_self, mb_e10, rv]
                  refine cX p rev st pcs regs plen pop px py path _ ?_
                  simp (disch := omega) only [wX_give_43, wpX_isFault, nI_clamp, vp_in_nI, nI_1, nI_add, mb_lt_t, mb_lt_f, mb_le_t, mb_le_f, mb_ne, mb_lt0, mb_le0, mb_m1, mb_m1l, mb_m1g, mb_m1n, mb_x2, mb_x4, mb_x32, mb_lt_4, mb_le_4, mb_ge_4, mb_gt_4, mb_le_3, mb_gt_3, mb_le_7, mb_gt_7, mb_lt_32, mb_ge_32, mb_lt_128, mb_ge_128, mb_ge_1, mb_lt_1, mb_ge_1f, mb_lt_1t, not_true, not_false_iff, false_implies, true_implies, true_and, and_true, forall_eq, forall_const, eq_self, mb_e10, m4]
                  exact K
              · refine ⟨nd, c, par, rev, st, pcs, regs, plen, pop, px, py, kd, hm, lk, ht, sl, path, 0, I, mb_M_rf, fun post K => ?_⟩
                simp (disch := omega) only [wpX_give, wpX_domainExists, wpX_isRegister, wpX_objectExists, wpX_bring, nI_clamp, vp_in_nI, nI_1, nI_add, mb_lt_t, mb_lt_f, mb_le_t, mb_le_f, mb_ne, mb_lt0, mb_le0, mb_m1, mb_m1l, mb_m1g, mb_m1n, mb_x2, mb_x4, mb_x32, mb_lt_4, mb_le_4, mb_ge_4, mb_gt_4, mb_le_3, mb_gt_3, mb_le_7, mb_gt_7, mb_lt_32, mb_ge_32, mb_lt_128, mb_ge_128, mb_ge_1, mb_lt_1, mb_ge_1f, mb_lt_1t, not_true, not_false_iff, false_implies, true_implies, true_and, and_true, forall_eq, forall_const, eq_self, mb_e10, ehm]
                refine mx_adj (by omega) (by omega) a ?_
                simp (disch := omega) only [mx_mbE, wX_give_43, wpX_isFault, nI_clamp, vp_in_nI, nI_1, nI_add, mb_lt_t, mb_lt_f, mb_le_t, mb_le_f, mb_ne, mb_lt0, mb_le0, mb_m1, mb_m1l, mb_m1g, mb_m1n, mb_x2, mb_x4, mb_x32, mb_lt_4, mb_le_4, mb_ge_4, mb_gt_4, mb_le_3, mb_gt_3, mb_le_7, mb_gt_7, mb_lt_32, mb_ge_32, mb_lt_128, mb_ge_128, mb_ge_1, mb_lt_1, mb_ge_1f, mb_lt_1t, not_true, not_false_iff, false_implies, true_implies, true_and, and_true, forall_eq, forall_const, eq_self, mb_e10, rv, m3]
                exact K
            · refine ⟨nd, c, par, rev, st, pcs, regs, plen, pop, px, py, kd, hm, lk, ht, sl, path, 0, I, mb_M_rf, fun post K => ?_⟩
              simp (disch := omega) only [wpX_give, wpX_domainExists, wpX_isRegister, wpX_objectExists, wpX_bring, nI_clamp, vp_in_nI, nI_1, nI_add, mb_lt_t, mb_lt_f, mb_le_t, mb_le_f, mb_ne, mb_lt0, mb_le0, mb_m1, mb_m1l, mb_m1g, mb_m1n, mb_x2, mb_x4, mb_x32, mb_lt_4, mb_le_4, mb_ge_4, mb_gt_4, mb_le_3, mb_gt_3, mb_le_7, mb_gt_7, mb_lt_32, mb_ge_32, mb_lt_128, mb_ge_128, mb_ge_1, mb_lt_1, mb_ge_1f, mb_lt_1t, not_true, not_false_iff, false_implies, true_implies, true_and, and_true, forall_eq, forall_const, eq_self, mb_e10, ehm]
              refine mx_nadj (by omega) (by omega) a ?_
              simp (disch := omega) only [wX_give_43, wpX_isFault, nI_clamp, vp_in_nI, nI_1, nI_add, mb_lt_t, mb_lt_f, mb_le_t, mb_le_f, mb_ne, mb_lt0, mb_le0, mb_m1, mb_m1l, mb_m1g, mb_m1n, mb_x2, mb_x4, mb_x32, mb_lt_4, mb_le_4, mb_ge_4, mb_gt_4, mb_le_3, mb_gt_3, mb_le_7, mb_gt_7, mb_lt_32, mb_ge_32, mb_lt_128, mb_ge_128, mb_ge_1, mb_lt_1, mb_ge_1f, mb_lt_1t, not_true, not_false_iff, false_implies, true_implies, true_and, and_true, forall_eq, forall_const, eq_self, mb_e10, m3]
              exact K
theorem mb_c_run (I : mb_I n p nd c par pcs regs plen pop px py kd hm lk sl) (v1 v2 : Int32) (rev st ht path : Nat → Int32) : ∃ (nd' c' : Nat) (par' rev' st' pcs' regs' plen' pop' px' py' kd' hm' lk' ht' sl' path' : Nat → Int32) (r : Int32), mb_I n p nd' c' par' pcs' regs' plen' pop' px' py' kd' hm' lk' sl' ∧ mb_M nd rev nd' rev' ∧
    (nd' = nd ∧ mb_E c kd hm lk c' kd' hm' lk' ∧ ∀ S : Int32 → Prop, mb_cl par rev nd S → S v1 → mb_Fr S c hm ht sl ht' sl' ∧ mb_Fg S nd regs regs') ∧
    (∀ post : Int32 → St2 → Prop, post r (nI n, nI p, nI nd', nI c', par', rev', st', pcs', regs', plen', pop', px', py', kd', hm', lk', ht', sl', path') → wpX_run post (nI n, nI p, nI nd, nI c, par, rev, st, pcs, regs, plen, pop, px, py, kd, hm, lk, ht, sl, path) v1 v2) := by
  obtain ⟨H, hn8, hp8, hp, hP, hR, hG⟩ := id I
  have hn : n ≤ 32 := H.2.1
  have hcn : c ≤ n := H.1
  have hnd : nd ≤ 4 := H.2.2.2.1
  have hnd1 : 1 ≤ nd := H.2.2.1
  rcases mb_ix v1 (n := nd) (by omega) with ⟨z1, z2⟩ | ⟨z1, z2, z3, z4⟩ | ⟨d, hd, rfl⟩
  · refine ⟨nd, c, par, rev, st, pcs, regs, plen, pop, px, py, kd, hm, lk, ht, sl, path, -1, I, mb_M_rf, ⟨rfl, mb_E_rf, fun S _ _ => ⟨mb_Fr_rf, mb_Fg_rf⟩⟩, fun post K => ?_⟩
    simp (disch := omega) only [wpX_run, wpX_domainExists, nI_clamp, vp_in_nI, nI_1, nI_add, mb_lt_t, mb_lt_f, mb_le_t, mb_le_f, mb_ne, mb_lt0, mb_le0, mb_m1, mb_m1l, mb_m1g, mb_m1n, mb_x2, mb_x4, mb_x32, mb_lt_4, mb_le_4, mb_ge_4, mb_gt_4, mb_le_3, mb_gt_3, mb_le_7, mb_gt_7, mb_lt_32, mb_ge_32, mb_lt_128, mb_ge_128, mb_ge_1, mb_lt_1, mb_ge_1f, mb_lt_1t, not_true, not_false_iff, false_implies, true_implies, true_and, and_true, forall_eq, forall_const, eq_self, mb_e10, z1, z2]
    exact K
  · refine ⟨nd, c, par, rev, st, pcs, regs, plen, pop, px, py, kd, hm, lk, ht, sl, path, -1, I, mb_M_rf, ⟨rfl, mb_E_rf, fun S _ _ => ⟨mb_Fr_rf, mb_Fg_rf⟩⟩, fun post K => ?_⟩
    simp (disch := omega) only [wpX_run, wpX_domainExists, nI_clamp, vp_in_nI, nI_1, nI_add, mb_lt_t, mb_lt_f, mb_le_t, mb_le_f, mb_ne, mb_lt0, mb_le0, mb_m1, mb_m1l, mb_m1g, mb_m1n, mb_x2, mb_x4, mb_x32, mb_lt_4, mb_le_4, mb_ge_4, mb_gt_4, mb_le_3, mb_gt_3, mb_le_7, mb_gt_7, mb_lt_32, mb_ge_32, mb_lt_128, mb_ge_128, mb_ge_1, mb_lt_1, mb_ge_1f, mb_lt_1t, not_true, not_false_iff, false_implies, true_implies, true_and, and_true, forall_eq, forall_const, eq_self, mb_e10, z1, z2, z3, z4]
    exact K
  · by_cases r : st d = 0
    · obtain ⟨l, q, a1, a2, a3, a4, -⟩ := hG d (by omega)
      obtain ⟨c', kd', hm', lk', ht', sl', rev', st', pcs', regs', path', r', I2, E2, V2, F2, jX⟩ := mb_run (st := st) hd v2 (l - q) c rev pcs regs kd hm lk ht sl path l q 0 I a3 a4 a1 a2 (Nat.le_refl _)
      refine ⟨nd, c', par, rev', st', pcs', regs', plen, pop, px, py, kd', hm', lk', ht', sl', path', r', I2, ⟨Nat.le_refl _, fun m _ h => V2.1 m h⟩, ⟨rfl, E2, F2⟩, fun post K => ?_⟩
      simp (disch := omega) only [wpX_run, wpX_domainExists, nI_clamp, vp_in_nI, nI_1, nI_add, mb_lt_t, mb_lt_f, mb_le_t, mb_le_f, mb_ne, mb_lt0, mb_le0, mb_m1, mb_m1l, mb_m1g, mb_m1n, mb_x2, mb_x4, mb_x32, mb_lt_4, mb_le_4, mb_ge_4, mb_gt_4, mb_le_3, mb_gt_3, mb_le_7, mb_gt_7, mb_lt_32, mb_ge_32, mb_lt_128, mb_ge_128, mb_ge_1, mb_lt_1, mb_ge_1f, mb_lt_1t, not_true, not_false_iff, false_implies, true_implies, true_and, and_true, forall_eq, forall_const, eq_self, mb_e10, r]
      exact ⟨l - q + 1, jX _ K (l - q + 1) (by omega)⟩
    · refine ⟨nd, c, par, rev, st, pcs, regs, plen, pop, px, py, kd, hm, lk, ht, sl, path, -1, I, mb_M_rf, ⟨rfl, mb_E_rf, fun S _ _ => ⟨mb_Fr_rf, mb_Fg_rf⟩⟩, fun post K => ?_⟩
      simp (disch := omega) only [wpX_run, wpX_domainExists, nI_clamp, vp_in_nI, nI_1, nI_add, mb_lt_t, mb_lt_f, mb_le_t, mb_le_f, mb_ne, mb_lt0, mb_le0, mb_m1, mb_m1l, mb_m1g, mb_m1n, mb_x2, mb_x4, mb_x32, mb_lt_4, mb_le_4, mb_ge_4, mb_gt_4, mb_le_3, mb_gt_3, mb_le_7, mb_gt_7, mb_lt_32, mb_ge_32, mb_lt_128, mb_ge_128, mb_ge_1, mb_lt_1, mb_ge_1f, mb_lt_1t, not_true, not_false_iff, false_implies, true_implies, true_and, and_true, forall_eq, forall_const, eq_self, mb_e10, r]
      exact K
end
