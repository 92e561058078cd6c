section
variable {n p nd c c1 : Nat} {par rev st pcs regs plen pop px py kd hm lk ht sl path hx he kd1 hm1 lk1 ht1 sl1 : Nat → Int32} {flt aX aY res : Int32}
theorem mx_mbE {post : Int32 → Prop} {x y : Nat} (h1 : x < 4) (h2 : y < 4) : wpX_membraneBetween post (nI x) (nI y) = post (nI (mb_mx x y)) := by
  unfold mb_mx
  by_cases z : y < x
  · rw [if_pos z]
    simp (disch := omega) only [wpX_membraneBetween, nI_clamp, vp_in_nI, nI_1, nI_add, mb_lt_t, mb_lt_f, mb_le_t, mb_le_f, mb_ne, mb_lt0, mb_le0, mb_m1, mb_m1l, mb_m1g, mb_m1n, mb_x2, mb_x4, mb_x32, mb_lt_4, mb_le_4, mb_ge_4, mb_gt_4, mb_le_3, mb_gt_3, mb_le_7, mb_gt_7, mb_lt_32, mb_ge_32, mb_lt_128, mb_ge_128, mb_ge_1, mb_lt_1, mb_ge_1f, mb_lt_1t, not_true, not_false_iff, false_implies, true_implies, true_and, and_true, forall_eq, forall_const, eq_self, mb_e10]
  · rw [if_neg z]
    simp (disch := omega) only [wpX_membraneBetween, nI_clamp, vp_in_nI, nI_1, nI_add, mb_lt_t, mb_lt_f, mb_le_t, mb_le_f, mb_ne, mb_lt0, mb_le0, mb_m1, mb_m1l, mb_m1g, mb_m1n, mb_x2, mb_x4, mb_x32, mb_lt_4, mb_le_4, mb_ge_4, mb_gt_4, mb_le_3, mb_gt_3, mb_le_7, mb_gt_7, mb_lt_32, mb_ge_32, mb_lt_128, mb_ge_128, mb_ge_1, mb_lt_1, mb_ge_1f, mb_lt_1t, not_true, not_false_iff, false_implies, true_implies, true_and, and_true, forall_eq, forall_const, eq_self, mb_e10]
theorem mx_bk {post : Int32 → SX → Prop} {m k x y : Nat} (hk : k < 32) (h1 : x < 4) (h2 : y < 4) (ex : path k = nI x) (ey : path (k + 1) = nI y) (rv : rev (mb_mx x y) = 0)
    (cX : ∀ post' : Int32 → SX → Prop, post' aX (nI n, nI p, nI nd, nI c1, par, rev, st, pcs, regs, plen, pop, px, py, kd1, hm1, lk1, ht1, sl1, path) → wpX_carry post' (nI n, nI p, nI nd, nI c, par, rev, st, pcs, regs, plen, pop, px, py, kd, hm, lk, ht, sl, path) res (nI y) (nI x)) (nf : -1 ≤ aX) (K : wX_carryBack_7 post m aX (nI k + -1) (nI n) (nI p) (nI nd) (nI c1) par rev st pcs regs plen pop px py kd1 hm1 lk1 ht1 sl1 path) : wX_carryBack_7 post (m + 1) res (nI (k + 1) + -1) (nI n) (nI p) (nI nd) (nI c) par rev st pcs regs plen pop px py kd hm lk ht sl path := by
  rw [pk_m1]
  have hmx := mb_mx_lt (d := 4) h1 h2
  simp (disch := omega) only [wX_carryBack_7, mx_mbE, nI_clamp, vp_in_nI, nI_1, nI_add, mb_lt_t, mb_lt_f, mb_le_t, mb_le_f, mb_ne, mb_lt0, mb_le0, mb_m1, mb_m1l, mb_m1g, mb_m1n, mb_x2, mb_x4, mb_x32, mb_lt_4, mb_le_4, mb_ge_4, mb_gt_4, mb_le_3, mb_gt_3, mb_le_7, mb_gt_7, mb_lt_32, mb_ge_32, mb_lt_128, mb_ge_128, mb_ge_1, mb_lt_1, mb_ge_1f, mb_lt_1t, not_true, not_false_iff, false_implies, true_implies, true_and, and_true, forall_eq, forall_const, eq_self, mb_e10, ex, ey, rv]
  refine cX _ ?_
  simp (disch := omega) only [wpX_isFault, nI_clamp, vp_in_nI, nI_1, nI_add, mb_lt_t, mb_lt_f, mb_le_t, mb_le_f, mb_ne, mb_lt0, mb_le0, mb_m1, mb_m1l, mb_m1g, mb_m1n, mb_x2, mb_x4, mb_x32, mb_lt_4, mb_le_4, mb_ge_4, mb_gt_4, mb_le_3, mb_gt_3, mb_le_7, mb_gt_7, mb_lt_32, mb_ge_32, mb_lt_128, mb_ge_128, mb_ge_1, mb_lt_1, mb_ge_1f, mb_lt_1t, not_true, not_false_iff, false_implies, true_implies, true_and, and_true, forall_eq, forall_const, eq_self, mb_e10, nf]
  exact K
theorem mx_bkf {post : Int32 → SX → Prop} {m k x y : Nat} (hk : k < 32) (h1 : x < 4) (h2 : y < 4) (ex : path k = nI x) (ey : path (k + 1) = nI y) (rv : rev (mb_mx x y) = 0)
    (cX : ∀ post' : Int32 → SX → Prop, post' (-4) (nI n, nI p, nI nd, nI c1, par, rev, st, pcs, regs, plen, pop, px, py, kd1, hm1, lk1, ht1, sl1, path) → wpX_carry post' (nI n, nI p, nI nd, nI c, par, rev, st, pcs, regs, plen, pop, px, py, kd, hm, lk, ht, sl, path) res (nI y) (nI x)) (K : post (-4) (nI n, nI p, nI nd, nI c1, par, rev, st, pcs, regs, plen, pop, px, py, kd1, hm1, lk1, ht1, sl1, path)) : wX_carryBack_7 post (m + 1) res (nI (k + 1) + -1) (nI n) (nI p) (nI nd) (nI c) par rev st pcs regs plen pop px py kd hm lk ht sl path := by
  rw [pk_m1]
  have hmx := mb_mx_lt (d := 4) h1 h2
  simp (disch := omega) only [wX_carryBack_7, mx_mbE, nI_clamp, vp_in_nI, nI_1, nI_add, mb_lt_t, mb_lt_f, mb_le_t, mb_le_f, mb_ne, mb_lt0, mb_le0, mb_m1, mb_m1l, mb_m1g, mb_m1n, mb_x2, mb_x4, mb_x32, mb_lt_4, mb_le_4, mb_ge_4, mb_gt_4, mb_le_3, mb_gt_3, mb_le_7, mb_gt_7, mb_lt_32, mb_ge_32, mb_lt_128, mb_ge_128, mb_ge_1, mb_lt_1, mb_ge_1f, mb_lt_1t, not_true, not_false_iff, false_implies, true_implies, true_and, and_true, forall_eq, forall_const, eq_self, mb_e10, ex, ey, rv]
  refine cX _ ?_
  have nf : ¬ ((-1 : Int32) ≤ -4) := by decide
  simp (disch := omega) only [wpX_isFault, nI_clamp, vp_in_nI, nI_1, nI_add, mb_lt_t, mb_lt_f, mb_le_t, mb_le_f, mb_ne, mb_lt0, mb_le0, mb_m1, mb_m1l, mb_m1g, mb_m1n, mb_x2, mb_x4, mb_x32, mb_lt_4, mb_le_4, mb_ge_4, mb_gt_4, mb_le_3, mb_gt_3, mb_le_7, mb_gt_7, mb_lt_32, mb_ge_32, mb_lt_128, mb_ge_128, mb_ge_1, mb_lt_1, mb_ge_1f, mb_lt_1t, not_true, not_false_iff, false_implies, true_implies, true_and, and_true, forall_eq, forall_const, eq_self, mb_e10, nf]
  exact K
theorem mx_bkr {post : Int32 → SX → Prop} {m k x y : Nat} (hk : k < 32) (h1 : x < 4) (h2 : y < 4) (ex : path k = nI x) (ey : path (k + 1) = nI y) (rv : ¬ rev (mb_mx x y) = 0)
    (K : post (-3) (nI n, nI p, nI nd, nI c, par, rev, st, pcs, regs, plen, pop, px, py, kd, hm, lk, ht, sl, path)) : wX_carryBack_7 post (m + 1) res (nI (k + 1) + -1) (nI n) (nI p) (nI nd) (nI c) par rev st pcs regs plen pop px py kd hm lk ht sl path := by
  rw [pk_m1]
  have hmx := mb_mx_lt (d := 4) h1 h2
  simp (disch := omega) only [wX_carryBack_7, mx_mbE, nI_clamp, vp_in_nI, nI_1, nI_add, mb_lt_t, mb_lt_f, mb_le_t, mb_le_f, mb_ne, mb_lt0, mb_le0, mb_m1, mb_m1l, mb_m1g, mb_m1n, mb_x2, mb_x4, mb_x32, mb_lt_4, mb_le_4, mb_ge_4, mb_gt_4, mb_le_3, mb_gt_3, mb_le_7, mb_gt_7, mb_lt_32, mb_ge_32, mb_lt_128, mb_ge_128, mb_ge_1, mb_lt_1, mb_ge_1f, mb_lt_1t, not_true, not_false_iff, false_implies, true_implies, true_and, and_true, forall_eq, forall_const, eq_self, mb_e10, ex, ey, rv]
  exact K
theorem my_b379 {post : Int32 → SY → Prop} {J : Int32 → Int32 → Int32 → Int32 → Int32 → Int32 → Int32 → (Nat → Int32) → (Nat → Int32) → (Nat → Int32) → (Nat → Int32) → (Nat → Int32) → (Nat → Int32) → (Nat → Int32) → (Nat → Int32) → (Nat → Int32) → (Nat → Int32) → (Nat → Int32) → (Nat → Int32) → (Nat → Int32) → (Nat → Int32) → (Nat → Int32) → (Nat → Int32) → (Nat → Int32) → Prop} {x9 x10 x11 : Int32} {z : Nat} (hz : z < 4) (rv : rev z = 0)
    (K : wY_invoke_409 post J res x9 x10 x11 (nI n) (nI p) (nI nd) (nI c) flt par rev regs pop px py plen pcs st kd hm lk (mb_ev sl) (mb_od sl) ht hx he) : wY_invoke_379 post J res x9 x10 x11 (nI z) (nI n) (nI p) (nI nd) (nI c) flt par rev regs pop px py plen pcs st kd hm lk (mb_ev sl) (mb_od sl) ht hx he := by
  simp (disch := omega) only [wY_invoke_379, nI_clamp, vp_in_nI, nI_1, nI_add, mb_lt_t, mb_lt_f, mb_le_t, mb_le_f, mb_ne, mb_lt0, mb_le0, mb_m1, mb_m1l, mb_m1g, mb_m1n, mb_x2, mb_x4, mb_x32, mb_lt_4, mb_le_4, mb_ge_4, mb_gt_4, mb_le_3, mb_gt_3, mb_le_7, mb_gt_7, mb_lt_32, mb_ge_32, mb_lt_128, mb_ge_128, mb_ge_1, mb_lt_1, mb_ge_1f, mb_lt_1t, not_true, not_false_iff, false_implies, true_implies, true_and, and_true, forall_eq, forall_const, eq_self, mb_e10, rv]
  exact K
theorem my_b379r {post : Int32 → SY → Prop} {J : Int32 → Int32 → Int32 → Int32 → Int32 → Int32 → Int32 → (Nat → Int32) → (Nat → Int32) → (Nat → Int32) → (Nat → Int32) → (Nat → Int32) → (Nat → Int32) → (Nat → Int32) → (Nat → Int32) → (Nat → Int32) → (Nat → Int32) → (Nat → Int32) → (Nat → Int32) → (Nat → Int32) → (Nat → Int32) → (Nat → Int32) → (Nat → Int32) → (Nat → Int32) → Prop} {x9 x10 x11 : Int32} {z : Nat} (hz : z < 4) (rv : ¬ rev z = 0)
    (K : post (-1) (nI n, nI p, nI nd, nI c, 2, par, rev, regs, pop, px, py, plen, pcs, st, kd, hm, lk, mb_ev sl, mb_od sl, ht, hx, he)) : wY_invoke_379 post J res x9 x10 x11 (nI z) (nI n) (nI p) (nI nd) (nI c) flt par rev regs pop px py plen pcs st kd hm lk (mb_ev sl) (mb_od sl) ht hx he := by
  simp (disch := omega) only [wY_invoke_379, nI_clamp, vp_in_nI, nI_1, nI_add, mb_lt_t, mb_lt_f, mb_le_t, mb_le_f, mb_ne, mb_lt0, mb_le0, mb_m1, mb_m1l, mb_m1g, mb_m1n, mb_x2, mb_x4, mb_x32, mb_lt_4, mb_le_4, mb_ge_4, mb_gt_4, mb_le_3, mb_gt_3, mb_le_7, mb_gt_7, mb_lt_32, mb_ge_32, mb_lt_128, mb_ge_128, mb_ge_1, mb_lt_1, mb_ge_1f, mb_lt_1t, not_true, not_false_iff, false_implies, true_implies, true_and, and_true, forall_eq, forall_const, eq_self, mb_e10, rv]
  exact K
theorem my_b342 {post : Int32 → SY → Prop} {m k x y : Nat} (hk : k < 32) (h1 : x < 4) (h2 : y < 4) (ex : hx k = nI x) (ey : he k = nI y)
    (K : wY_invoke_379 post (wY_invoke_342 post m) res (nI k) (nI x) (nI y) (nI (mb_mx x y)) (nI n) (nI p) (nI nd) (nI c) flt par rev regs pop px py plen pcs st kd hm lk (mb_ev sl) (mb_od sl) ht hx he) : wY_invoke_342 post (m + 1) res (nI (k + 1) + -1) (nI n) (nI p) (nI nd) (nI c) flt par rev regs pop px py plen pcs st kd hm lk (mb_ev sl) (mb_od sl) ht hx he := by
  rw [pk_m1]
  by_cases z : x ≤ y
  · have emx : mb_mx x y = y := if_neg (by omega)
    rw [emx] at K
    simp (disch := omega) only [wY_invoke_342, nI_clamp, vp_in_nI, nI_1, nI_add, mb_lt_t, mb_lt_f, mb_le_t, mb_le_f, mb_ne, mb_lt0, mb_le0, mb_m1, mb_m1l, mb_m1g, mb_m1n, mb_x2, mb_x4, mb_x32, mb_lt_4, mb_le_4, mb_ge_4, mb_gt_4, mb_le_3, mb_gt_3, mb_le_7, mb_gt_7, mb_lt_32, mb_ge_32, mb_lt_128, mb_ge_128, mb_ge_1, mb_lt_1, mb_ge_1f, mb_lt_1t, not_true, not_false_iff, false_implies, true_implies, true_and, and_true, forall_eq, forall_const, eq_self, mb_e10, ex, ey]
    exact K
  · have emx : mb_mx x y = x := if_pos (by omega)
    rw [emx] at K
    simp (disch := omega) only [wY_invoke_342, nI_clamp, vp_in_nI, nI_1, nI_add, mb_lt_t, mb_lt_f, mb_le_t, mb_le_f, mb_ne, mb_lt0, mb_le0, mb_m1, mb_m1l, mb_m1g, mb_m1n, mb_x2, mb_x4, mb_x32, mb_lt_4, mb_le_4, mb_ge_4, mb_gt_4, mb_le_3, mb_gt_3, mb_le_7, mb_gt_7, mb_lt_32, mb_ge_32, mb_lt_128, mb_ge_128, mb_ge_1, mb_lt_1, mb_ge_1f, mb_lt_1t, not_true, not_false_iff, false_implies, true_implies, true_and, and_true, forall_eq, forall_const, eq_self, mb_e10, ex, ey]
    exact K
theorem my_b409 {post : Int32 → SY → Prop} {J : Int32 → Int32 → Int32 → Int32 → Int32 → Int32 → Int32 → (Nat → Int32) → (Nat → Int32) → (Nat → Int32) → (Nat → Int32) → (Nat → Int32) → (Nat → Int32) → (Nat → Int32) → (Nat → Int32) → (Nat → Int32) → (Nat → Int32) → (Nat → Int32) → (Nat → Int32) → (Nat → Int32) → (Nat → Int32) → (Nat → Int32) → (Nat → Int32) → (Nat → Int32) → Prop} {x10 x11 : Int32} {k : Nat}
    (cY : ∀ post' : Int32 → SY → Prop, post' aY (nI n, nI p, nI nd, nI c1, flt, par, rev, regs, pop, px, py, plen, pcs, st, kd1, hm1, lk1, (mb_ev sl1), (mb_od sl1), ht1, hx, he) → wpY_carry post' (nI n, nI p, nI nd, nI c, flt, par, rev, regs, pop, px, py, plen, pcs, st, kd, hm, lk, mb_ev sl, mb_od sl, ht, hx, he) res x11 x10) (nf : ¬ aY = -2) (K : J aY (nI k + -1) (nI n) (nI p) (nI nd) (nI c1) flt par rev regs pop px py plen pcs st kd1 hm1 lk1 (mb_ev sl1) (mb_od sl1) ht1 hx he) : wY_invoke_409 post J res (nI k) x10 x11 (nI n) (nI p) (nI nd) (nI c) flt par rev regs pop px py plen pcs st kd hm lk (mb_ev sl) (mb_od sl) ht hx he := by
  unfold wY_invoke_409
  refine cY _ ?_
  simp (disch := omega) only [not_true, not_false_iff, false_implies, true_implies, true_and, and_true, forall_eq, forall_const, eq_self, mb_e10, nf]
  exact K
theorem my_b409f {post : Int32 → SY → Prop} {J : Int32 → Int32 → Int32 → Int32 → Int32 → Int32 → Int32 → (Nat → Int32) → (Nat → Int32) → (Nat → Int32) → (Nat → Int32) → (Nat → Int32) → (Nat → Int32) → (Nat → Int32) → (Nat → Int32) → (Nat → Int32) → (Nat → Int32) → (Nat → Int32) → (Nat → Int32) → (Nat → Int32) → (Nat → Int32) → (Nat → Int32) → (Nat → Int32) → (Nat → Int32) → Prop} {x9 x10 x11 : Int32}
    (cY : ∀ post' : Int32 → SY → Prop, post' (-2) (nI n, nI p, nI nd, nI c1, flt, par, rev, regs, pop, px, py, plen, pcs, st, kd1, hm1, lk1, (mb_ev sl1), (mb_od sl1), ht1, hx, he) → wpY_carry post' (nI n, nI p, nI nd, nI c, flt, par, rev, regs, pop, px, py, plen, pcs, st, kd, hm, lk, mb_ev sl, mb_od sl, ht, hx, he) res x11 x10) (K : post (-1) (nI n, nI p, nI nd, nI c1, 3, par, rev, regs, pop, px, py, plen, pcs, st, kd1, hm1, lk1, (mb_ev sl1), (mb_od sl1), ht1, hx, he)) : wY_invoke_409 post J res x9 x10 x11 (nI n) (nI p) (nI nd) (nI c) flt par rev regs pop px py plen pcs st kd hm lk (mb_ev sl) (mb_od sl) ht hx he := by
  unfold wY_invoke_409
  refine cY _ ?_
  simp (disch := omega) only [not_true, not_false_iff, false_implies, true_implies, true_and, and_true, forall_eq, forall_const, eq_self, mb_e10]
  exact K
theorem mb_ref_le {c : Nat} {r : Int32} (h : mb_ref c r) (hc : c ≤ 32) : -1 ≤ r ∧ ¬ r = -2 := by
  rcases h with rfl | ⟨j, hj, rfl⟩
  · decide
  · have a : j < 2 ^ 31 := by omega
    exact ⟨of_eq_true (mb_m1l a), of_eq_false (mb_m1n a)⟩
/-- the way back: both sides in one outcome -/
theorem mb_back {g : Nat → Nat} : ∀ (k c : Nat) (kd hm lk ht sl : Nat → Int32) (res : Int32), mb_H n nd c kd hm lk sl → mb_ref c res → mb_W nd k g path hx he → k ≤ 32 →
    ∃ (c' : Nat) (kd' hm' lk' ht' sl' : Nat → Int32) (rX rY flt' : Int32), mb_H n nd c' kd' hm' lk' sl' ∧ mb_E c kd hm lk c' kd' hm' lk' ∧ mb_A c' rX rY flt' ∧
      (∀ (p : Nat) (par st pcs regs plen pop px py : Nat → Int32) (post : Int32 → SX → Prop), post rX (nI n, nI p, nI nd, nI c', par, rev, st, pcs, regs, plen, pop, px, py, kd', hm', lk', ht', sl', path) → ∀ m, k < m → wX_carryBack_7 post m res (nI k + -1) (nI n) (nI p) (nI nd) (nI c) par rev st pcs regs plen pop px py kd hm lk ht sl path) ∧ (∀ (p : Nat) (par regs pop px py plen pcs st : Nat → Int32) (post : Int32 → SY → Prop), post rY (nI n, nI p, nI nd, nI c', flt', par, rev, regs, pop, px, py, plen, pcs, st, kd', hm', lk', (mb_ev sl'), (mb_od sl'), ht', hx, he) → ∀ m, k < m → wY_invoke_342 post m res (nI k + -1) (nI n) (nI p) (nI nd) (nI c) 0 par rev regs pop px py plen pcs st kd hm lk (mb_ev sl) (mb_od sl) ht hx he) := by
  intro k
  induction k with
  | zero =>
    intro c kd hm lk ht sl res H hr W hk
    refine ⟨c, kd, hm, lk, ht, sl, res, res, 0, H, mb_E_rf, Or.inl ⟨rfl, rfl, hr⟩, ?_, ?_⟩
    · intro p par st pcs regs plen pop px py post K m h
      obtain ⟨m, rfl⟩ : ∃ q, m = q + 1 := ⟨m - 1, by omega⟩
      exact br_t (by decide) K
    · intro p par regs pop px py plen pcs st post K m h
      obtain ⟨m, rfl⟩ : ∃ q, m = q + 1 := ⟨m - 1, by omega⟩
      exact br_t (by decide) K
  | succ k ih =>
    intro c kd hm lk ht sl res H hr W hk
    have hnd : nd ≤ 4 := H.2.2.2.1
    obtain ⟨x1, ex⟩ := W.1 k (by omega)
    obtain ⟨y1, ey⟩ := W.1 (k + 1) (by omega)
    obtain ⟨ex', ey'⟩ := W.2 k (by omega)
    have hmx := mb_mx_lt (d := 4) (show g k < 4 by omega) (show g (k + 1) < 4 by omega)
    by_cases rv : rev (mb_mx (g k) (g (k + 1))) = 0
    · obtain ⟨c1, kd1, hm1, lk1, ht1, sl1, aX, aY, H1, E1, hA, cX, cY⟩ := mb_carry H hr y1 x1 ht
      have hc1 : c1 ≤ 32 := Nat.le_trans H1.1 H1.2.1
      rcases hA with ⟨r1, rfl⟩ | ⟨rfl, rfl⟩
      · obtain ⟨c', kd', hm', lk', ht', sl', rX, rY, flt', H2, E2, A2, iX, iY⟩ := ih c1 kd1 hm1 lk1 ht1 sl1 aY H1 r1 (mb_W_dn W) (by omega)
        refine ⟨c', kd', hm', lk', ht', sl', rX, rY, flt', H2, mb_E_tr E1 E2, A2, ?_, ?_⟩
        · intro p par st pcs regs plen pop px py post K m h
          obtain ⟨m, rfl⟩ : ∃ q, m = q + 1 := ⟨m - 1, by omega⟩
          exact mx_bk (by omega) (by omega) (by omega) ex ey rv (fun post' K' => cX p par rev st pcs regs plen pop px py path post' K') (mb_ref_le r1 hc1).1 (iX p par st pcs regs plen pop px py post K m (by omega))
        · intro p par regs pop px py plen pcs st post K m h
          obtain ⟨m, rfl⟩ : ∃ q, m = q + 1 := ⟨m - 1, by omega⟩
          exact my_b342 (by omega) (by omega) (by omega) ex' ey' (my_b379 (by omega) rv (my_b409 (fun post' K' => cY p 0 par rev regs pop px py plen pcs st hx he post' K') (mb_ref_le r1 hc1).2 (iY p par regs pop px py plen pcs st post K m (by omega))))
      · refine ⟨c1, kd1, hm1, lk1, ht1, sl1, -4, -1, 3, H1, E1, Or.inr ⟨3, by omega, by omega, rfl, by decide⟩, ?_, ?_⟩
        · intro p par st pcs regs plen pop px py post K m h
          obtain ⟨m, rfl⟩ : ∃ q, m = q + 1 := ⟨m - 1, by omega⟩
          exact mx_bkf (by omega) (by omega) (by omega) ex ey rv (fun post' K' => cX p par rev st pcs regs plen pop px py path post' K') K
        · intro p par regs pop px py plen pcs st post K m h
          obtain ⟨m, rfl⟩ : ∃ q, m = q + 1 := ⟨m - 1, by omega⟩
          exact my_b342 (by omega) (by omega) (by omega) ex' ey' (my_b379 (by omega) rv (my_b409f (fun post' K' => cY p 0 par rev regs pop px py plen pcs st hx he post' K') K))
    · refine ⟨c, kd, hm, lk, ht, sl, -3, -1, 2, H, mb_E_rf, Or.inr ⟨2, by omega, by omega, rfl, by decide⟩, ?_, ?_⟩
      · intro p par st pcs regs plen pop px py post K m h
        obtain ⟨m, rfl⟩ : ∃ q, m = q + 1 := ⟨m - 1, by omega⟩
        exact mx_bkr (by omega) (by omega) (by omega) ex ey rv K
      · intro p par regs pop px py plen pcs st post K m h
        obtain ⟨m, rfl⟩ : ∃ q, m = q + 1 := ⟨m - 1, by omega⟩
        exact my_b342 (by omega) (by omega) (by omega) ex' ey' (my_b379r (by omega) rv K)
end
