section
variable {n p nd c c1 : Nat} {par rev st pcs regs plen pop px py kd hm lk ht sl path kd1 hm1 lk1 ht1 sl1 : Nat → Int32} {aX res : Int32}
theorem mx_mbE {post : Int32 → Prop} {x y : Nat} (h1 : x < 4) (h2 : y < 4) : wpX_membraneBetween post () (nI x) (nI y) = post (nI (mb_mx x y)) := by
  unfold mb_mx
  by_cases z : y < x
  · rw [if_pos z]
    simp (disch := omega) only [wpX_membraneBetween, nI_clamp, vp_in_nI, nI_1, nI_add, mb_lt_t, mb_lt_f, mb_le_t, mb_le_f, mb_ne, mb_lt0, mb_le0, mb_m1, mb_m1l, mb_m1g, mb_m1n, mb_x2, mb_x4, mb_x32, mb_lt_4, mb_le_4, mb_ge_4, mb_gt_4, mb_le_3, mb_gt_3, mb_le_7, mb_gt_7, mb_lt_32, mb_ge_32, mb_lt_128, mb_ge_128, mb_ge_1, mb_lt_1, mb_ge_1f, mb_lt_1t, not_true, not_false_iff, false_implies, true_implies, true_and, and_true, forall_eq, forall_const, eq_self, mb_e10]
  · rw [if_neg z]
    simp (disch := omega) only [wpX_membraneBetween, nI_clamp, vp_in_nI, nI_1, nI_add, mb_lt_t, mb_lt_f, mb_le_t, mb_le_f, mb_ne, mb_lt0, mb_le0, mb_m1, mb_m1l, mb_m1g, mb_m1n, mb_x2, mb_x4, mb_x32, mb_lt_4, mb_le_4, mb_ge_4, mb_gt_4, mb_le_3, mb_gt_3, mb_le_7, mb_gt_7, mb_lt_32, mb_ge_32, mb_lt_128, mb_ge_128, mb_ge_1, mb_lt_1, mb_ge_1f, mb_lt_1t, not_true, not_false_iff, false_implies, true_implies, true_and, and_true, forall_eq, forall_const, eq_self, mb_e10]
theorem mx_bk {post : Int32 → St2 → Prop} {m k x y : Nat} (hk : k < 32) (h1 : x < 4) (h2 : y < 4) (ex : path k = nI x) (ey : path (k + 1) = nI y) (rv : rev (mb_mx x y) = 0)
    (cX : ∀ post' : Int32 → St2 → Prop, post' aX (nI n, nI p, nI nd, nI c1, par, rev, st, pcs, regs, plen, pop, px, py, kd1, hm1, lk1, ht1, sl1, path) → wpX_carry post' (nI n, nI p, nI nd, nI c, par, rev, st, pcs, regs, plen, pop, px, py, kd, hm, lk, ht, sl, path) res (nI y) (nI x)) (nf : -1 ≤ aX) (K : wX_carryBack_7 post m aX (nI k + -1) (nI n) (nI p) (nI nd) (nI c1) par rev st pcs regs plen pop px py kd1 hm1 lk1 ht1 sl1 path) : wX_carryBack_7 post (m + 1) res (nI (k + 1) + -1) (nI n) (nI p) (nI nd) (nI c) par rev st pcs regs plen pop px py kd hm lk ht sl path := by
  rw [pk_m1]
  have hmx := mb_mx_lt (d := 4) h1 h2
  simp (disch := omega) only [wX_carryBack_7, mx_mbE, nI_clamp, vp_in_nI, nI_1, nI_add, mb_lt_t, mb_lt_f, mb_le_t, mb_le_f, mb_ne, mb_lt0, mb_le0, mb_m1, mb_m1l, mb_m1g, mb_m1n, mb_x2, mb_x4, mb_x32, mb_lt_4, mb_le_4, mb_ge_4, mb_gt_4, mb_le_3, mb_gt_3, mb_le_7, mb_gt_7, mb_lt_32, mb_ge_32, mb_lt_128, mb_ge_128, mb_ge_1, mb_lt_1, mb_ge_1f, mb_lt_1t, not_true, not_false_iff, false_implies, true_implies, true_and, and_true, forall_eq, forall_const, eq_self, mb_e10, ex, ey, rv]
  refine cX _ ?_
  simp (disch := omega) only [wpX_isFault, nI_clamp, vp_in_nI, nI_1, nI_add, mb_lt_t, mb_lt_f, mb_le_t, mb_le_f, mb_ne, mb_lt0, mb_le0, mb_m1, mb_m1l, mb_m1g, mb_m1n, mb_x2, mb_x4, mb_x32, mb_lt_4, mb_le_4, mb_ge_4, mb_gt_4, mb_le_3, mb_gt_3, mb_le_7, mb_gt_7, mb_lt_32, mb_ge_32, mb_lt_128, mb_ge_128, mb_ge_1, mb_lt_1, mb_ge_1f, mb_lt_1t, not_true, not_false_iff, false_implies, true_implies, true_and, and_true, forall_eq, forall_const, eq_self, mb_e10, nf]
  exact K
theorem mx_bkf {post : Int32 → St2 → Prop} {m k x y : Nat} (hk : k < 32) (h1 : x < 4) (h2 : y < 4) (ex : path k = nI x) (ey : path (k + 1) = nI y) (rv : rev (mb_mx x y) = 0)
    (cX : ∀ post' : Int32 → St2 → Prop, post' (-4) (nI n, nI p, nI nd, nI c1, par, rev, st, pcs, regs, plen, pop, px, py, kd1, hm1, lk1, ht1, sl1, path) → wpX_carry post' (nI n, nI p, nI nd, nI c, par, rev, st, pcs, regs, plen, pop, px, py, kd, hm, lk, ht, sl, path) res (nI y) (nI x)) (K : post (-4) (nI n, nI p, nI nd, nI c1, par, rev, st, pcs, regs, plen, pop, px, py, kd1, hm1, lk1, ht1, sl1, path)) : wX_carryBack_7 post (m + 1) res (nI (k + 1) + -1) (nI n) (nI p) (nI nd) (nI c) par rev st pcs regs plen pop px py kd hm lk ht sl path := by
  rw [pk_m1]
  have hmx := mb_mx_lt (d := 4) h1 h2
  simp (disch := omega) only [wX_carryBack_7, mx_mbE, nI_clamp, vp_in_nI, nI_1, nI_add, mb_lt_t, mb_lt_f, mb_le_t, mb_le_f, mb_ne, mb_lt0, mb_le0, mb_m1, mb_m1l, mb_m1g, mb_m1n, mb_x2, mb_x4, mb_x32, mb_lt_4, mb_le_4, mb_ge_4, mb_gt_4, mb_le_3, mb_gt_3, mb_le_7, mb_gt_7, mb_lt_32, mb_ge_32, mb_lt_128, mb_ge_128, mb_ge_1, mb_lt_1, mb_ge_1f, mb_lt_1t, not_true, not_false_iff, false_implies, true_implies, true_and, and_true, forall_eq, forall_const, eq_self, mb_e10, ex, ey, rv]
  refine cX _ ?_
  have nf : ¬ ((-1 : Int32) ≤ -4) := by decide
  simp (disch := omega) only [wpX_isFault, nI_clamp, vp_in_nI, nI_1, nI_add, mb_lt_t, mb_lt_f, mb_le_t, mb_le_f, mb_ne, mb_lt0, mb_le0, mb_m1, mb_m1l, mb_m1g, mb_m1n, mb_x2, mb_x4, mb_x32, mb_lt_4, mb_le_4, mb_ge_4, mb_gt_4, mb_le_3, mb_gt_3, mb_le_7, mb_gt_7, mb_lt_32, mb_ge_32, mb_lt_128, mb_ge_128, mb_ge_1, mb_lt_1, mb_ge_1f, mb_lt_1t, not_true, not_false_iff, false_implies, true_implies, true_and, and_true, forall_eq, forall_const, eq_self, mb_e10, nf]
  exact K
theorem mx_bkr {post : Int32 → St2 → Prop} {m k x y : Nat} (hk : k < 32) (h1 : x < 4) (h2 : y < 4) (ex : path k = nI x) (ey : path (k + 1) = nI y) (rv : ¬ rev (mb_mx x y) = 0)
    (K : post (-3) (nI n, nI p, nI nd, nI c, par, rev, st, pcs, regs, plen, pop, px, py, kd, hm, lk, ht, sl, path)) : wX_carryBack_7 post (m + 1) res (nI (k + 1) + -1) (nI n) (nI p) (nI nd) (nI c) par rev st pcs regs plen pop px py kd hm lk ht sl path := by
  rw [pk_m1]
  have hmx := mb_mx_lt (d := 4) h1 h2
  simp (disch := omega) only [wX_carryBack_7, mx_mbE, nI_clamp, vp_in_nI, nI_1, nI_add, mb_lt_t, mb_lt_f, mb_le_t, mb_le_f, mb_ne, mb_lt0, mb_le0, mb_m1, mb_m1l, mb_m1g, mb_m1n, mb_x2, mb_x4, mb_x32, mb_lt_4, mb_le_4, mb_ge_4, mb_gt_4, mb_le_3, mb_gt_3, mb_le_7, mb_gt_7, mb_lt_32, mb_ge_32, mb_lt_128, mb_ge_128, mb_ge_1, mb_lt_1, mb_ge_1f, mb_lt_1t, not_true, not_false_iff, false_implies, true_implies, true_and, and_true, forall_eq, forall_const, eq_self, mb_e10, ex, ey, rv]
  exact K
theorem mb_rf_le {c : Nat} {hm : Nat → Int32} {h r : Int32} (a : mb_rf c hm h r) (hc : c ≤ 32) : -1 ≤ r := by
  rcases a with rfl | ⟨j, hj, rfl, -⟩
  · decide
  · exact of_eq_true (mb_m1l (by omega))
/-- the way back -/
theorem mb_back {g : Nat → Nat} : ∀ (k c : Nat) (kd hm lk ht sl : Nat → Int32) (res : Int32), mb_H n nd c par kd hm lk sl → mb_rf c hm (nI (g k)) res → mb_W par nd k g path → k ≤ 32 →
    ∃ (c' : Nat) (kd' hm' lk' ht' sl' : Nat → Int32) (rX : Int32), mb_H n nd c' par kd' hm' lk' sl' ∧ mb_E c kd hm lk c' kd' hm' lk' ∧ (∀ S, mb_Fr S c hm ht sl ht' sl') ∧ mb_A c' hm' (nI (g 0)) rX ∧
      (∀ (p : Nat) (st pcs regs plen pop px py : Nat → Int32) (post : Int32 → St2 → Prop), post rX (nI n, nI p, nI nd, nI c', par, rev, st, pcs, regs, plen, pop, px, py, kd', hm', lk', ht', sl', path) → ∀ m, k < m → wX_carryBack_7 post m res (nI k + -1) (nI n) (nI p) (nI nd) (nI c) par rev st pcs regs plen pop px py kd hm lk ht sl path) := by
  intro k
  induction k with
  | zero =>
    intro c kd hm lk ht sl res H hr W hk
    refine ⟨c, kd, hm, lk, ht, sl, res, H, mb_E_rf, fun _ => mb_Fr_rf, Or.inl hr, ?_⟩
    intro p st pcs regs plen pop px py post K m h
    obtain ⟨m, rfl⟩ : ∃ q, m = q + 1 := ⟨m - 1, by omega⟩
    exact br_t (by decide) K
  | succ k ih =>
    intro c kd hm lk ht sl res H hr W hk
    have hnd : nd ≤ 4 := H.2.2.2.1
    obtain ⟨x1, ex⟩ := W.1 k (by omega)
    obtain ⟨y1, ey⟩ := W.1 (k + 1) (by omega)
    have had := W.2 k (by omega)
    have hmx := mb_mx_lt (d := 4) (show g k < 4 by omega) (show g (k + 1) < 4 by omega)
    by_cases rv : rev (mb_mx (g k) (g (k + 1))) = 0
    · obtain ⟨c1, kd1, hm1, lk1, ht1, sl1, aX, H1, E1, F1, hA, cX⟩ := mb_carry H hr y1 x1 (mb_adj_s had) ht
      have hc1 : c1 ≤ 32 := Nat.le_trans H1.1 H1.2.1
      rcases hA with r1 | rfl
      · obtain ⟨c', kd', hm', lk', ht', sl', rX, H2, E2, F2, A2, iX⟩ := ih c1 kd1 hm1 lk1 ht1 sl1 aX H1 r1 (mb_W_dn W) (by omega)
        refine ⟨c', kd', hm', lk', ht', sl', rX, H2, mb_E_tr E1 E2, fun S => mb_Fr_tr (F1 S) E1 (F2 S), A2, ?_⟩
        intro p st pcs regs plen pop px py post K m h
        obtain ⟨m, rfl⟩ : ∃ q, m = q + 1 := ⟨m - 1, by omega⟩
        exact mx_bk (by omega) (by omega) (by omega) ex ey rv (fun post' K' => cX p rev st pcs regs plen pop px py path post' K') (mb_rf_le r1 hc1) (iX p st pcs regs plen pop px py post K m (by omega))
      · refine ⟨c1, kd1, hm1, lk1, ht1, sl1, -4, H1, E1, F1, Or.inr ⟨3, by omega, by omega, by decide⟩, ?_⟩
        intro p st pcs regs plen pop px py post K m h
        obtain ⟨m, rfl⟩ : ∃ q, m = q + 1 := ⟨m - 1, by omega⟩
        exact mx_bkf (by omega) (by omega) (by omega) ex ey rv (fun post' K' => cX p rev st pcs regs plen pop px py path post' K') K
    · refine ⟨c, kd, hm, lk, ht, sl, -3, H, mb_E_rf, fun _ => mb_Fr_rf, Or.inr ⟨2, by omega, by omega, by decide⟩, ?_⟩
      intro p st pcs regs plen pop px py post K m h
      obtain ⟨m, rfl⟩ : ∃ q, m = q + 1 := ⟨m - 1, by omega⟩
      exact mx_bkr (by omega) (by omega) (by omega) ex ey rv K
end
