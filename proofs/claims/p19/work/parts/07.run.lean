section
variable {n p nd c c' : Nat} {par rev st pcs regs plen pop px py kd hm lk ht sl path kd' hm' lk' ht' sl' rev' regs' path' : Nat → Int32} {steps rX : Int32}
theorem mx_rstop {post : Int32 → St2 → Prop} {m z d l q : Nat} (hd : d < 4) (el : plen d = nI l) (eq : pcs d = nI q) (hl : l ≤ 32) (hq : q ≤ 32) (h : steps ≤ nI z ∨ l ≤ q) (K : post (nI z) (nI n, nI p, nI nd, nI c, par, rev, st, pcs, regs, plen, pop, px, py, kd, hm, lk, ht, sl, path)) : wX_run_21 post (nI d) steps (m + 1) (nI z) (nI n) (nI p) (nI nd) (nI c) par rev st pcs regs plen pop px py kd hm lk ht sl path := by
  by_cases s : steps ≤ nI z
  · exact br_t s K
  · have h' : l ≤ q := h.resolve_left s
    simp (disch := omega) only [wX_run_21, nI_clamp, vp_in_nI, nI_1, nI_add, mb_lt_t, mb_lt_f, mb_le_t, mb_le_f, mb_ne, mb_lt0, mb_le0, mb_m1, mb_m1l, mb_m1g, mb_m1n, mb_x2, mb_x4, mb_x32, mb_lt_4, mb_le_4, mb_ge_4, mb_gt_4, mb_le_3, mb_gt_3, mb_le_7, mb_gt_7, mb_lt_32, mb_ge_32, mb_lt_128, mb_ge_128, mb_ge_1, mb_lt_1, mb_ge_1f, mb_lt_1t, not_true, not_false_iff, false_implies, true_implies, true_and, and_true, forall_eq, forall_const, eq_self, mb_e10, s, el, eq]
    exact K
theorem mx_rgo {post : Int32 → St2 → Prop} {m z d l q o x y : Nat} (hd : d < 4) (el : plen d = nI l) (eq : pcs d = nI q) (hl : l ≤ 32) (hq : q < l) (s : ¬ steps ≤ nI z)
    (e1 : pop (d * 32 + q) = nI o) (e2 : px (d * 32 + q) = nI x) (e3 : py (d * 32 + q) = nI y)
    (iX : ∀ post' : Int32 → St2 → Prop, post' rX (nI n, nI p, nI nd, nI c', par, rev', st, pcs, regs', plen, pop, px, py, kd', hm', lk', ht', sl', path') → wpX_execute post' (nI n, nI p, nI nd, nI c, par, rev, st, pcs, regs, plen, pop, px, py, kd, hm, lk, ht, sl, path) (nI d) (nI o) (nI x) (nI y)) (nf : -1 ≤ rX)
    (K : wX_run_21 post (nI d) steps m (nI (z + 1)) (nI n) (nI p) (nI nd) (nI c') par rev' st (upd pcs d (nI (q + 1))) regs' plen pop px py kd' hm' lk' ht' sl' path') : wX_run_21 post (nI d) steps (m + 1) (nI z) (nI n) (nI p) (nI nd) (nI c) par rev st pcs regs plen pop px py kd hm lk ht sl path := by
  simp (disch := omega) only [wX_run_21, nI_clamp, vp_in_nI, nI_1, nI_add, mb_lt_t, mb_lt_f, mb_le_t, mb_le_f, mb_ne, mb_lt0, mb_le0, mb_m1, mb_m1l, mb_m1g, mb_m1n, mb_x2, mb_x4, mb_x32, mb_lt_4, mb_le_4, mb_ge_4, mb_gt_4, mb_le_3, mb_gt_3, mb_le_7, mb_gt_7, mb_lt_32, mb_ge_32, mb_lt_128, mb_ge_128, mb_ge_1, mb_lt_1, mb_ge_1f, mb_lt_1t, not_true, not_false_iff, false_implies, true_implies, true_and, and_true, forall_eq, forall_const, eq_self, mb_e10, s, el, eq, e1, e2, e3]
  refine iX _ ?_
  simp (disch := omega) only [wpX_isFault, nI_clamp, vp_in_nI, nI_1, nI_add, mb_lt_t, mb_lt_f, mb_le_t, mb_le_f, mb_ne, mb_lt0, mb_le0, mb_m1, mb_m1l, mb_m1g, mb_m1n, mb_x2, mb_x4, mb_x32, mb_lt_4, mb_le_4, mb_ge_4, mb_gt_4, mb_le_3, mb_gt_3, mb_le_7, mb_gt_7, mb_lt_32, mb_ge_32, mb_lt_128, mb_ge_128, mb_ge_1, mb_lt_1, mb_ge_1f, mb_lt_1t, not_true, not_false_iff, false_implies, true_implies, true_and, and_true, forall_eq, forall_const, eq_self, mb_e10, nf, eq]
  exact K
theorem mx_rfl {post : Int32 → St2 → Prop} {m z d l q o x y e : Nat} (hd : d < 4) (el : plen d = nI l) (eq : pcs d = nI q) (hl : l ≤ 32) (hq : q < l) (s : ¬ steps ≤ nI z)
    (e1 : pop (d * 32 + q) = nI o) (e2 : px (d * 32 + q) = nI x) (e3 : py (d * 32 + q) = nI y)
    (iX : ∀ post' : Int32 → St2 → Prop, post' (-1 - nI e) (nI n, nI p, nI nd, nI c', par, rev', st, pcs, regs', plen, pop, px, py, kd', hm', lk', ht', sl', path') → wpX_execute post' (nI n, nI p, nI nd, nI c, par, rev, st, pcs, regs, plen, pop, px, py, kd, hm, lk, ht, sl, path) (nI d) (nI o) (nI x) (nI y)) (h1 : 1 ≤ e) (h3 : e ≤ 3)
    (K : post (nI z) (nI n, nI p, nI nd, nI c', par, rev', (upd st d (nI e)), pcs, regs', plen, pop, px, py, kd', hm', lk', ht', sl', path')) : wX_run_21 post (nI d) steps (m + 1) (nI z) (nI n) (nI p) (nI nd) (nI c) par rev st pcs regs plen pop px py kd hm lk ht sl path := by
  simp (disch := omega) only [wX_run_21, nI_clamp, vp_in_nI, nI_1, nI_add, mb_lt_t, mb_lt_f, mb_le_t, mb_le_f, mb_ne, mb_lt0, mb_le0, mb_m1, mb_m1l, mb_m1g, mb_m1n, mb_x2, mb_x4, mb_x32, mb_lt_4, mb_le_4, mb_ge_4, mb_gt_4, mb_le_3, mb_gt_3, mb_le_7, mb_gt_7, mb_lt_32, mb_ge_32, mb_lt_128, mb_ge_128, mb_ge_1, mb_lt_1, mb_ge_1f, mb_lt_1t, not_true, not_false_iff, false_implies, true_implies, true_and, and_true, forall_eq, forall_const, eq_self, mb_e10, s, el, eq, e1, e2, e3]
  refine iX _ ?_
  have nf := mb_nle e h3 h1
  have ne := mb_neg e h3
  simp (disch := omega) only [wpX_isFault, nI_clamp, vp_in_nI, nI_1, nI_add, mb_lt_t, mb_lt_f, mb_le_t, mb_le_f, mb_ne, mb_lt0, mb_le0, mb_m1, mb_m1l, mb_m1g, mb_m1n, mb_x2, mb_x4, mb_x32, mb_lt_4, mb_le_4, mb_ge_4, mb_gt_4, mb_le_3, mb_gt_3, mb_le_7, mb_gt_7, mb_lt_32, mb_ge_32, mb_lt_128, mb_ge_128, mb_ge_1, mb_lt_1, mb_ge_1f, mb_lt_1t, not_true, not_false_iff, false_implies, true_implies, true_and, and_true, forall_eq, forall_const, eq_self, mb_e10, nf, ne]
  exact K
/-- run's loop -/
theorem mb_run {d : Nat} (hd : d < nd) (steps : Int32) : ∀ (w c : Nat) (rev pcs regs kd hm lk ht sl path : Nat → Int32) (l q z : Nat), mb_I n p nd c par pcs regs plen pop px py kd hm lk sl →
    plen d = nI l → pcs d = nI q → l ≤ 32 → q ≤ l → l - q ≤ w →
    ∃ (c' : Nat) (kd' hm' lk' ht' sl' : Nat → Int32) (rev' st' pcs' regs' path' : Nat → Int32) (r : Int32), mb_I n p nd c' par pcs' regs' plen pop px py kd' hm' lk' sl' ∧ mb_E c kd hm lk c' kd' hm' lk' ∧ mb_V nd rev rev' ∧
      (∀ S, mb_cl par rev nd S → S (nI d) → mb_Fr S c hm ht sl ht' sl' ∧ mb_Fg S nd regs regs') ∧
      (∀ post : Int32 → St2 → Prop, post r (nI n, nI p, nI nd, nI c', par, rev', st', pcs', regs', plen, pop, px, py, kd', hm', lk', ht', sl', path') → ∀ m, w < m → wX_run_21 post (nI d) steps m (nI z) (nI n) (nI p) (nI nd) (nI c) par rev st pcs regs plen pop px py kd hm lk ht sl path) := by
  intro w
  induction w with
  | zero =>
    intro c rev pcs regs kd hm lk ht sl path l q z I el eq hl hq hw
    have hnd : nd ≤ 4 := I.1.2.2.2.1
    refine ⟨c, kd, hm, lk, ht, sl, rev, st, pcs, regs, path, nI z, I, mb_E_rf, mb_V_rf, fun S _ _ => ⟨mb_Fr_rf, mb_Fg_rf⟩, ?_⟩
    intro post K m h
    obtain ⟨m, rfl⟩ : ∃ q, m = q + 1 := ⟨m - 1, by omega⟩
    exact mx_rstop (by omega) el eq hl (by omega) (Or.inr (by omega)) K
  | succ w ih =>
    intro c rev pcs regs kd hm lk ht sl path l q z I el eq hl hq hw
    have hnd : nd ≤ 4 := I.1.2.2.2.1
    by_cases stop : steps ≤ nI z ∨ l ≤ q
    · refine ⟨c, kd, hm, lk, ht, sl, rev, st, pcs, regs, path, nI z, I, mb_E_rf, mb_V_rf, fun S _ _ => ⟨mb_Fr_rf, mb_Fg_rf⟩, ?_⟩
      intro post K m h
      obtain ⟨m, rfl⟩ : ∃ q, m = q + 1 := ⟨m - 1, by omega⟩
      exact mx_rstop (by omega) el eq hl (by omega) stop K
    · have s : ¬ steps ≤ nI z := fun z => stop (Or.inl z)
      have lq : q < l := Nat.lt_of_not_le (fun z => stop (Or.inr z))
      obtain ⟨l', q', g1, g2, g3, g4, g5⟩ := I.2.2.2.2.2.2 d (by omega)
      have hl' : l' = l := (nI_eq (by omega) (by omega)).mp (g3.symm.trans el)
      subst hl'
      obtain ⟨o, x, y, h0, h1, h2, e1, e2, e3⟩ := g5 q lq
      obtain ⟨c', kd', hm', lk', ht', sl', rev', regs', path', rX, e, I2, E2, V2, he3, A, F2, iX⟩ := mb_exec I hd h0 h1 h2 rev st ht path
      rcases A with ⟨rfl, nf⟩ | ⟨a1, rfl⟩
      · obtain ⟨H2, hn8, hp8, hp, hP, hR, hG⟩ := I2
        obtain ⟨c2, kd2, hm2, lk2, ht2, sl2, rev2, st2, pcs2, regs2, path2, r, I3, E3, V3, F3, jX⟩ := ih c' rev' (upd pcs d (nI (q + 1))) regs' kd' hm' lk' ht' sl' path' l' (q + 1) (z + 1) ⟨H2, hn8, hp8, hp, hP, hR, mb_G_pc hG (by omega) el hl lq⟩ el pk_us hl lq (by omega)
        refine ⟨c2, kd2, hm2, lk2, ht2, sl2, rev2, st2, pcs2, regs2, path2, r, I3, mb_E_tr E2 E3, mb_V_tr V2 V3, ?_, ?_⟩
        · intro S cl s
          obtain ⟨f1, f2⟩ := F2 S cl s
          obtain ⟨f3, f4⟩ := F3 S (mb_cl_up cl V2.1) s
          exact ⟨mb_Fr_tr f1 E2 f3, mb_Fg_tr f2 f4⟩
        · intro post K m h
          obtain ⟨m, rfl⟩ : ∃ q, m = q + 1 := ⟨m - 1, by omega⟩
          exact mx_rgo (by omega) el eq hl lq s e1 e2 e3 iX nf (jX post K m (by omega))
      · refine ⟨c', kd', hm', lk', ht', sl', rev', upd st d (nI e), pcs, regs', path', nI z, I2, E2, V2, F2, ?_⟩
        intro post K m h
        obtain ⟨m, rfl⟩ : ∃ q, m = q + 1 := ⟨m - 1, by omega⟩
        exact mx_rfl (by omega) el eq hl lq s e1 e2 e3 iX a1 he3 K
end
