section
variable {n p nd c c' : Nat} {par rev st pcs regs plen pop px py kd hm lk ht sl path hx he kd' hm' lk' ht' sl' rev' regs' path' hx' he' : Nat → Int32} {flt flt' steps rX : Int32}
theorem mx_rstop {post : Int32 → SX → Prop} {m z d l q : Nat} (hd : d < 4) (el : plen d = nI l) (eq : pcs d = nI q) (hl : l ≤ 32) (hq : q ≤ 32) (h : steps ≤ nI z ∨ l ≤ q) (K : post (nI z) (nI n, nI p, nI nd, nI c, par, rev, st, pcs, regs, plen, pop, px, py, kd, hm, lk, ht, sl, path)) : wX_run_21 post (nI d) steps (m + 1) (nI z) (nI n) (nI p) (nI nd) (nI c) par rev st pcs regs plen pop px py kd hm lk ht sl path := by
  by_cases s : steps ≤ nI z
  · exact br_t s K
  · have h' : l ≤ q := h.resolve_left s
    simp (disch := omega) only [wX_run_21, nI_clamp, vp_in_nI, nI_1, nI_add, mb_lt_t, mb_lt_f, mb_le_t, mb_le_f, mb_ne, mb_lt0, mb_le0, mb_m1, mb_m1l, mb_m1g, mb_m1n, mb_x2, mb_x4, mb_x32, mb_lt_4, mb_le_4, mb_ge_4, mb_gt_4, mb_le_3, mb_gt_3, mb_le_7, mb_gt_7, mb_lt_32, mb_ge_32, mb_lt_128, mb_ge_128, mb_ge_1, mb_lt_1, mb_ge_1f, mb_lt_1t, not_true, not_false_iff, false_implies, true_implies, true_and, and_true, forall_eq, forall_const, eq_self, mb_e10, s, el, eq]
    exact K
theorem my_rstop {post : Int32 → SY → Prop} {m z d l q : Nat} (hd : d < 4) (el : plen d = nI l) (eq : pcs d = nI q) (hl : l ≤ 32) (hq : q ≤ 32) (h : steps ≤ nI z ∨ l ≤ q) (K : post (nI z) (nI n, nI p, nI nd, nI c, flt, par, rev, regs, pop, px, py, plen, pcs, st, kd, hm, lk, mb_ev sl, mb_od sl, ht, hx, he)) : wY_run_25 post (nI d) steps (m + 1) (nI z) (nI n) (nI p) (nI nd) (nI c) flt par rev regs pop px py plen pcs st kd hm lk (mb_ev sl) (mb_od sl) ht hx he := by
  by_cases s : steps ≤ nI z
  · exact br_t s K
  · have h' : l ≤ q := h.resolve_left s
    simp (disch := omega) only [wY_run_25, nI_clamp, vp_in_nI, nI_1, nI_add, mb_lt_t, mb_lt_f, mb_le_t, mb_le_f, mb_ne, mb_lt0, mb_le0, mb_m1, mb_m1l, mb_m1g, mb_m1n, mb_x2, mb_x4, mb_x32, mb_lt_4, mb_le_4, mb_ge_4, mb_gt_4, mb_le_3, mb_gt_3, mb_le_7, mb_gt_7, mb_lt_32, mb_ge_32, mb_lt_128, mb_ge_128, mb_ge_1, mb_lt_1, mb_ge_1f, mb_lt_1t, not_true, not_false_iff, false_implies, true_implies, true_and, and_true, forall_eq, forall_const, eq_self, mb_e10, s, el, eq]
    exact K
theorem mx_rgo {post : Int32 → SX → Prop} {m z d l q o x y : Nat} (hd : d < 4) (el : plen d = nI l) (eq : pcs d = nI q) (hl : l ≤ 32) (hq : q < l) (s : ¬ steps ≤ nI z)
    (e1 : pop (d * 32 + q) = nI o) (e2 : px (d * 32 + q) = nI x) (e3 : py (d * 32 + q) = nI y)
    (iX : ∀ post' : Int32 → SX → Prop, post' rX (nI n, nI p, nI nd, nI c', par, rev', st, pcs, regs', plen, pop, px, py, kd', hm', lk', ht', sl', path') → wpX_execute post' (nI n, nI p, nI nd, nI c, par, rev, st, pcs, regs, plen, pop, px, py, kd, hm, lk, ht, sl, path) (nI d) (nI o) (nI x) (nI y)) (nf : -1 ≤ rX)
    (K : wX_run_21 post (nI d) steps m (nI (z + 1)) (nI n) (nI p) (nI nd) (nI c') par rev' st (upd pcs d (nI (q + 1))) regs' plen pop px py kd' hm' lk' ht' sl' path') : wX_run_21 post (nI d) steps (m + 1) (nI z) (nI n) (nI p) (nI nd) (nI c) par rev st pcs regs plen pop px py kd hm lk ht sl path := by
  simp (disch := omega) only [wX_run_21, nI_clamp, vp_in_nI, nI_1, nI_add, mb_lt_t, mb_lt_f, mb_le_t, mb_le_f, mb_ne, mb_lt0, mb_le0, mb_m1, mb_m1l, mb_m1g, mb_m1n, mb_x2, mb_x4, mb_x32, mb_lt_4, mb_le_4, mb_ge_4, mb_gt_4, mb_le_3, mb_gt_3, mb_le_7, mb_gt_7, mb_lt_32, mb_ge_32, mb_lt_128, mb_ge_128, mb_ge_1, mb_lt_1, mb_ge_1f, mb_lt_1t, not_true, not_false_iff, false_implies, true_implies, true_and, and_true, forall_eq, forall_const, eq_self, mb_e10, s, el, eq, e1, e2, e3]
  refine iX _ ?_
  simp (disch := omega) only [wpX_isFault, nI_clamp, vp_in_nI, nI_1, nI_add, mb_lt_t, mb_lt_f, mb_le_t, mb_le_f, mb_ne, mb_lt0, mb_le0, mb_m1, mb_m1l, mb_m1g, mb_m1n, mb_x2, mb_x4, mb_x32, mb_lt_4, mb_le_4, mb_ge_4, mb_gt_4, mb_le_3, mb_gt_3, mb_le_7, mb_gt_7, mb_lt_32, mb_ge_32, mb_lt_128, mb_ge_128, mb_ge_1, mb_lt_1, mb_ge_1f, mb_lt_1t, not_true, not_false_iff, false_implies, true_implies, true_and, and_true, forall_eq, forall_const, eq_self, mb_e10, nf, eq]
  exact K
theorem mx_rfl {post : Int32 → SX → Prop} {m z d l q o x y e : Nat} (hd : d < 4) (el : plen d = nI l) (eq : pcs d = nI q) (hl : l ≤ 32) (hq : q < l) (s : ¬ steps ≤ nI z)
    (e1 : pop (d * 32 + q) = nI o) (e2 : px (d * 32 + q) = nI x) (e3 : py (d * 32 + q) = nI y)
    (iX : ∀ post' : Int32 → SX → Prop, post' (-1 - nI e) (nI n, nI p, nI nd, nI c', par, rev', st, pcs, regs', plen, pop, px, py, kd', hm', lk', ht', sl', path') → wpX_execute post' (nI n, nI p, nI nd, nI c, par, rev, st, pcs, regs, plen, pop, px, py, kd, hm, lk, ht, sl, path) (nI d) (nI o) (nI x) (nI y)) (h1 : 1 ≤ e) (h3 : e ≤ 3)
    (K : post (nI z) (nI n, nI p, nI nd, nI c', par, rev', (upd st d (nI e)), pcs, regs', plen, pop, px, py, kd', hm', lk', ht', sl', path')) : wX_run_21 post (nI d) steps (m + 1) (nI z) (nI n) (nI p) (nI nd) (nI c) par rev st pcs regs plen pop px py kd hm lk ht sl path := by
  simp (disch := omega) only [wX_run_21, nI_clamp, vp_in_nI, nI_1, nI_add, mb_lt_t, mb_lt_f, mb_le_t, mb_le_f, mb_ne, mb_lt0, mb_le0, mb_m1, mb_m1l, mb_m1g, mb_m1n, mb_x2, mb_x4, mb_x32, mb_lt_4, mb_le_4, mb_ge_4, mb_gt_4, mb_le_3, mb_gt_3, mb_le_7, mb_gt_7, mb_lt_32, mb_ge_32, mb_lt_128, mb_ge_128, mb_ge_1, mb_lt_1, mb_ge_1f, mb_lt_1t, not_true, not_false_iff, false_implies, true_implies, true_and, and_true, forall_eq, forall_const, eq_self, mb_e10, s, el, eq, e1, e2, e3]
  refine iX _ ?_
  have nf := mb_nle e h3 h1
  have ne := mb_neg e h3
  simp (disch := omega) only [wpX_isFault, nI_clamp, vp_in_nI, nI_1, nI_add, mb_lt_t, mb_lt_f, mb_le_t, mb_le_f, mb_ne, mb_lt0, mb_le0, mb_m1, mb_m1l, mb_m1g, mb_m1n, mb_x2, mb_x4, mb_x32, mb_lt_4, mb_le_4, mb_ge_4, mb_gt_4, mb_le_3, mb_gt_3, mb_le_7, mb_gt_7, mb_lt_32, mb_ge_32, mb_lt_128, mb_ge_128, mb_ge_1, mb_lt_1, mb_ge_1f, mb_lt_1t, not_true, not_false_iff, false_implies, true_implies, true_and, and_true, forall_eq, forall_const, eq_self, mb_e10, nf, ne]
  exact K
theorem my_rgo {post : Int32 → SY → Prop} {m z d l q : Nat} (hd : d < 4) (el : plen d = nI l) (eq : pcs d = nI q) (hl : l ≤ 32) (hq : q < l) (s : ¬ steps ≤ nI z)
    (iY : ∀ post' : Int32 → SY → Prop, post' (nI 0) (nI n, nI p, nI nd, nI c', flt', par, rev', regs', pop, px, py, plen, pcs, st, kd', hm', lk', (mb_ev sl'), (mb_od sl'), ht', hx', he') → wpY_step post' (nI n, nI p, nI nd, nI c, flt, par, rev, regs, pop, px, py, plen, pcs, st, kd, hm, lk, mb_ev sl, mb_od sl, ht, hx, he) (nI d))
    (K : wY_run_25 post (nI d) steps m (nI (z + 1)) (nI n) (nI p) (nI nd) (nI c') flt' par rev' regs' pop px py plen (upd pcs d (nI (q + 1))) st kd' hm' lk' (mb_ev sl') (mb_od sl') ht' hx' he') : wY_run_25 post (nI d) steps (m + 1) (nI z) (nI n) (nI p) (nI nd) (nI c) flt par rev regs pop px py plen pcs st kd hm lk (mb_ev sl) (mb_od sl) ht hx he := by
  simp (disch := omega) only [wY_run_25, nI_clamp, vp_in_nI, nI_1, nI_add, mb_lt_t, mb_lt_f, mb_le_t, mb_le_f, mb_ne, mb_lt0, mb_le0, mb_m1, mb_m1l, mb_m1g, mb_m1n, mb_x2, mb_x4, mb_x32, mb_lt_4, mb_le_4, mb_ge_4, mb_gt_4, mb_le_3, mb_gt_3, mb_le_7, mb_gt_7, mb_lt_32, mb_ge_32, mb_lt_128, mb_ge_128, mb_ge_1, mb_lt_1, mb_ge_1f, mb_lt_1t, not_true, not_false_iff, false_implies, true_implies, true_and, and_true, forall_eq, forall_const, eq_self, mb_e10, s, el, eq]
  refine iY _ ?_
  simp (disch := omega) only [nI_clamp, vp_in_nI, nI_1, nI_add, mb_lt_t, mb_lt_f, mb_le_t, mb_le_f, mb_ne, mb_lt0, mb_le0, mb_m1, mb_m1l, mb_m1g, mb_m1n, mb_x2, mb_x4, mb_x32, mb_lt_4, mb_le_4, mb_ge_4, mb_gt_4, mb_le_3, mb_gt_3, mb_le_7, mb_gt_7, mb_lt_32, mb_ge_32, mb_lt_128, mb_ge_128, mb_ge_1, mb_lt_1, mb_ge_1f, mb_lt_1t, not_true, not_false_iff, false_implies, true_implies, true_and, and_true, forall_eq, forall_const, eq_self, mb_e10, nI_0, eq]
  exact K
theorem my_rfl {post : Int32 → SY → Prop} {m z d l q e : Nat} (hd : d < 4) (el : plen d = nI l) (eq : pcs d = nI q) (hl : l ≤ 32) (hq : q < l) (s : ¬ steps ≤ nI z)
    (iY : ∀ post' : Int32 → SY → Prop, post' (nI e) (nI n, nI p, nI nd, nI c', flt', par, rev', regs', pop, px, py, plen, pcs, st, kd', hm', lk', (mb_ev sl'), (mb_od sl'), ht', hx', he') → wpY_step post' (nI n, nI p, nI nd, nI c, flt, par, rev, regs, pop, px, py, plen, pcs, st, kd, hm, lk, mb_ev sl, mb_od sl, ht, hx, he) (nI d)) (h1 : 1 ≤ e) (h3 : e ≤ 3)
    (K : post (nI z) (nI n, nI p, nI nd, nI c', flt', par, rev', regs', pop, px, py, plen, pcs, (upd st d (nI e)), kd', hm', lk', (mb_ev sl'), (mb_od sl'), ht', hx', he')) : wY_run_25 post (nI d) steps (m + 1) (nI z) (nI n) (nI p) (nI nd) (nI c) flt par rev regs pop px py plen pcs st kd hm lk (mb_ev sl) (mb_od sl) ht hx he := by
  simp (disch := omega) only [wY_run_25, nI_clamp, vp_in_nI, nI_1, nI_add, mb_lt_t, mb_lt_f, mb_le_t, mb_le_f, mb_ne, mb_lt0, mb_le0, mb_m1, mb_m1l, mb_m1g, mb_m1n, mb_x2, mb_x4, mb_x32, mb_lt_4, mb_le_4, mb_ge_4, mb_gt_4, mb_le_3, mb_gt_3, mb_le_7, mb_gt_7, mb_lt_32, mb_ge_32, mb_lt_128, mb_ge_128, mb_ge_1, mb_lt_1, mb_ge_1f, mb_lt_1t, not_true, not_false_iff, false_implies, true_implies, true_and, and_true, forall_eq, forall_const, eq_self, mb_e10, s, el, eq]
  refine iY _ ?_
  simp (disch := omega) only [nI_clamp, vp_in_nI, nI_1, nI_add, mb_lt_t, mb_lt_f, mb_le_t, mb_le_f, mb_ne, mb_lt0, mb_le0, mb_m1, mb_m1l, mb_m1g, mb_m1n, mb_x2, mb_x4, mb_x32, mb_lt_4, mb_le_4, mb_ge_4, mb_gt_4, mb_le_3, mb_gt_3, mb_le_7, mb_gt_7, mb_lt_32, mb_ge_32, mb_lt_128, mb_ge_128, mb_ge_1, mb_lt_1, mb_ge_1f, mb_lt_1t, not_true, not_false_iff, false_implies, true_implies, true_and, and_true, forall_eq, forall_const, eq_self, mb_e10, nI_ne0]
  exact K
/-- run's loop: both sides in one outcome -/
theorem mb_run {d : Nat} (hd : d < nd) (steps : Int32) : ∀ (w c : Nat) (rev pcs regs kd hm lk ht sl path hx he : Nat → Int32) (flt : Int32) (l q z : Nat), mb_I n p nd c par rev st pcs regs plen pop px py kd hm lk sl →
    plen d = nI l → pcs d = nI q → l ≤ 32 → q ≤ l → l - q ≤ w →
    ∃ (c' : Nat) (kd' hm' lk' ht' sl' : Nat → Int32) (rev' st' pcs' regs' path' hx' he' : Nat → Int32) (flt' r : Int32), mb_I n p nd c' par rev' st' pcs' regs' plen pop px py kd' hm' lk' sl' ∧
      (∀ post : Int32 → SX → Prop, post r (nI n, nI p, nI nd, nI c', par, rev', st', pcs', regs', plen, pop, px, py, kd', hm', lk', ht', sl', path') → ∀ m, w < m → wX_run_21 post (nI d) steps m (nI z) (nI n) (nI p) (nI nd) (nI c) par rev st pcs regs plen pop px py kd hm lk ht sl path) ∧
      (∀ post : Int32 → SY → Prop, post r (nI n, nI p, nI nd, nI c', flt', par, rev', regs', pop, px, py, plen, pcs', st', kd', hm', lk', (mb_ev sl'), (mb_od sl'), ht', hx', he') → ∀ m, w < m → wY_run_25 post (nI d) steps m (nI z) (nI n) (nI p) (nI nd) (nI c) flt par rev regs pop px py plen pcs st kd hm lk (mb_ev sl) (mb_od sl) ht hx he) := by
  intro w
  induction w with
  | zero =>
    intro c rev pcs regs kd hm lk ht sl path hx he flt l q z I el eq hl hq hw
    have hnd : nd ≤ 4 := I.1.2.2.2.1
    refine ⟨c, kd, hm, lk, ht, sl, rev, st, pcs, regs, path, hx, he, flt, nI z, I, ?_, ?_⟩
    · intro post K m h
      obtain ⟨m, rfl⟩ : ∃ q, m = q + 1 := ⟨m - 1, by omega⟩
      exact mx_rstop (by omega) el eq hl (by omega) (Or.inr (by omega)) K
    · intro post K m h
      obtain ⟨m, rfl⟩ : ∃ q, m = q + 1 := ⟨m - 1, by omega⟩
      exact my_rstop (by omega) el eq hl (by omega) (Or.inr (by omega)) K
  | succ w ih =>
    intro c rev pcs regs kd hm lk ht sl path hx he flt l q z I el eq hl hq hw
    have hnd : nd ≤ 4 := I.1.2.2.2.1
    by_cases stop : steps ≤ nI z ∨ l ≤ q
    · refine ⟨c, kd, hm, lk, ht, sl, rev, st, pcs, regs, path, hx, he, flt, nI z, I, ?_, ?_⟩
      · intro post K m h
        obtain ⟨m, rfl⟩ : ∃ q, m = q + 1 := ⟨m - 1, by omega⟩
        exact mx_rstop (by omega) el eq hl (by omega) stop K
      · intro post K m h
        obtain ⟨m, rfl⟩ : ∃ q, m = q + 1 := ⟨m - 1, by omega⟩
        exact my_rstop (by omega) el eq hl (by omega) stop K
    · have s : ¬ steps ≤ nI z := fun z => stop (Or.inl z)
      have lq : q < l := Nat.lt_of_not_le (fun z => stop (Or.inr z))
      obtain ⟨l', q', g1, g2, g3, g4, g5⟩ := I.2.2.2.2.2.2.2 d (by omega)
      have hl' : l' = l := (nI_eq (by omega) (by omega)).mp (g3.symm.trans el)
      subst hl'
      obtain ⟨o, x, y, h0, h1, h2, e1, e2, e3⟩ := g5 q lq
      obtain ⟨c', kd', hm', lk', ht', sl', rev', regs', path', hx', he', flt', rX, e, I2, he3, A, iX, iY⟩ := mb_exec I hd (by omega) h0 h1 h2 eq e1 e2 e3 ht path hx he flt
      rcases A with ⟨rfl, nf⟩ | ⟨a1, rfl⟩
      · obtain ⟨H2, hn8, hp8, hp, hP, hF, hR, hG⟩ := I2
        obtain ⟨c2, kd2, hm2, lk2, ht2, sl2, rev2, st2, pcs2, regs2, path2, hx2, he2, flt2, r, I3, jX, jY⟩ := ih c' rev' (upd pcs d (nI (q + 1))) regs' kd' hm' lk' ht' sl' path' hx' he' flt' l' (q + 1) (z + 1) ⟨H2, hn8, hp8, hp, hP, mb_F_pc hF hd _, hR, mb_G_pc hG (by omega) el hl lq⟩ el pk_us hl lq (by omega)
        refine ⟨c2, kd2, hm2, lk2, ht2, sl2, rev2, st2, pcs2, regs2, path2, hx2, he2, flt2, r, I3, ?_, ?_⟩
        · intro post K m h
          obtain ⟨m, rfl⟩ : ∃ q, m = q + 1 := ⟨m - 1, by omega⟩
          exact mx_rgo (by omega) el eq hl lq s e1 e2 e3 iX nf (jX post K m (by omega))
        · intro post K m h
          obtain ⟨m, rfl⟩ : ∃ q, m = q + 1 := ⟨m - 1, by omega⟩
          exact my_rgo (by omega) el eq hl lq s iY (jY post K m (by omega))
      · obtain ⟨H2, hn8, hp8, hp, hP, hF, hR, hG⟩ := I2
        refine ⟨c', kd', hm', lk', ht', sl', rev', upd st d (nI e), pcs, regs', path', hx', he', flt', nI z, ⟨H2, hn8, hp8, hp, hP, mb_F_st hF hd _, hR, hG⟩, ?_, ?_⟩
        · intro post K m h
          obtain ⟨m, rfl⟩ : ∃ q, m = q + 1 := ⟨m - 1, by omega⟩
          exact mx_rfl (by omega) el eq hl lq s e1 e2 e3 iX a1 he3 K
        · intro post K m h
          obtain ⟨m, rfl⟩ : ∃ q, m = q + 1 := ⟨m - 1, by omega⟩
          exact my_rfl (by omega) el eq hl lq s iY a1 he3 K
end
