section
variable {n p nd c : Nat} {par rev st pcs regs plen pop px py kd hm lk ht sl path : Nat → Int32}
theorem mx_mk {post : Int32 → St2 → Prop} {k h l : Int32} (hc : c < n) (hn : n ≤ 32) (K : post (nI c) (nI n, nI p, nI nd, nI (c + 1), par, rev, st, pcs, regs, plen, pop, px, py, (upd kd c k), (upd hm c h), (upd lk c l), (upd ht c 0), (upd (upd sl (c * 2) (-1)) (c * 2 + 1) (-1)), path)) : wpX_makeObject post (nI n, nI p, nI nd, nI c, par, rev, st, pcs, regs, plen, pop, px, py, kd, hm, lk, ht, sl, path) k h l := by
  simp (disch := omega) only [wpX_makeObject, nI_clamp, vp_in_nI, nI_1, nI_add, mb_lt_t, mb_lt_f, mb_le_t, mb_le_f, mb_ne, mb_lt0, mb_le0, mb_m1, mb_m1l, mb_m1g, mb_m1n, mb_x2, mb_x4, mb_x32, mb_lt_4, mb_le_4, mb_ge_4, mb_gt_4, mb_le_3, mb_gt_3, mb_le_7, mb_gt_7, mb_lt_32, mb_ge_32, mb_lt_128, mb_ge_128, mb_ge_1, mb_lt_1, mb_ge_1f, mb_lt_1t, not_true, not_false_iff, false_implies, true_implies, true_and, and_true, forall_eq, forall_const, eq_self, mb_e10]
  exact K
theorem mx_full {post : Int32 → St2 → Prop} {k h l : Int32} (hc : n ≤ c) (hn : c ≤ 32) (K : post (-4) (nI n, nI p, nI nd, nI c, par, rev, st, pcs, regs, plen, pop, px, py, kd, hm, lk, ht, sl, path)) : wpX_makeObject post (nI n, nI p, nI nd, nI c, par, rev, st, pcs, regs, plen, pop, px, py, kd, hm, lk, ht, sl, path) k h l := by
  simp (disch := omega) only [wpX_makeObject, nI_clamp, vp_in_nI, nI_1, nI_add, mb_lt_t, mb_lt_f, mb_le_t, mb_le_f, mb_ne, mb_lt0, mb_le0, mb_m1, mb_m1l, mb_m1g, mb_m1n, mb_x2, mb_x4, mb_x32, mb_lt_4, mb_le_4, mb_ge_4, mb_gt_4, mb_le_3, mb_gt_3, mb_le_7, mb_gt_7, mb_lt_32, mb_ge_32, mb_lt_128, mb_ge_128, mb_ge_1, mb_lt_1, mb_ge_1f, mb_lt_1t, not_true, not_false_iff, false_implies, true_implies, true_and, and_true, forall_eq, forall_const, eq_self, mb_e10]
  exact K
theorem mx_hit {post : Int32 → Prop} {t b : Int32} {f : Nat} (hf : f < c) (hc : c ≤ 32) (h1 : kd f = 3) (h2 : hm f = b) (h3 : lk f = t) (hn : ∀ j, j < f → ¬ (kd j = 3 ∧ hm j = b ∧ lk j = t)) (K : post (nI f)) : ∀ m i : Nat, i ≤ f → f - i < m → wX_findForwarder_2 post t b (nI n) (nI p) (nI nd) (nI c) par rev st pcs regs plen pop px py kd hm lk ht sl path m (nI i) := by
  intro m
  induction m with
  | zero => intro i _ z; omega
  | succ m ih =>
    intro i hi z
    by_cases e : i = f
    · subst e
      simp (disch := omega) only [wX_findForwarder_2, nI_clamp, vp_in_nI, nI_1, nI_add, mb_lt_t, mb_lt_f, mb_le_t, mb_le_f, mb_ne, mb_lt0, mb_le0, mb_m1, mb_m1l, mb_m1g, mb_m1n, mb_x2, mb_x4, mb_x32, mb_lt_4, mb_le_4, mb_ge_4, mb_gt_4, mb_le_3, mb_gt_3, mb_le_7, mb_gt_7, mb_lt_32, mb_ge_32, mb_lt_128, mb_ge_128, mb_ge_1, mb_lt_1, mb_ge_1f, mb_lt_1t, not_true, not_false_iff, false_implies, true_implies, true_and, and_true, forall_eq, forall_const, eq_self, mb_e10, h1, h2, h3]
      exact K
    · have K' := ih (i + 1) (by omega) (by omega)
      have hno := hn i (by omega)
      by_cases k1 : kd i = 3
      · by_cases k2 : hm i = b
        · have k3 : ¬ lk i = t := fun z => hno ⟨k1, k2, z⟩
          simp (disch := omega) only [wX_findForwarder_2, nI_clamp, vp_in_nI, nI_1, nI_add, mb_lt_t, mb_lt_f, mb_le_t, mb_le_f, mb_ne, mb_lt0, mb_le0, mb_m1, mb_m1l, mb_m1g, mb_m1n, mb_x2, mb_x4, mb_x32, mb_lt_4, mb_le_4, mb_ge_4, mb_gt_4, mb_le_3, mb_gt_3, mb_le_7, mb_gt_7, mb_lt_32, mb_ge_32, mb_lt_128, mb_ge_128, mb_ge_1, mb_lt_1, mb_ge_1f, mb_lt_1t, not_true, not_false_iff, false_implies, true_implies, true_and, and_true, forall_eq, forall_const, eq_self, mb_e10, k1, k2, k3]
          exact K'
        · simp (disch := omega) only [wX_findForwarder_2, nI_clamp, vp_in_nI, nI_1, nI_add, mb_lt_t, mb_lt_f, mb_le_t, mb_le_f, mb_ne, mb_lt0, mb_le0, mb_m1, mb_m1l, mb_m1g, mb_m1n, mb_x2, mb_x4, mb_x32, mb_lt_4, mb_le_4, mb_ge_4, mb_gt_4, mb_le_3, mb_gt_3, mb_le_7, mb_gt_7, mb_lt_32, mb_ge_32, mb_lt_128, mb_ge_128, mb_ge_1, mb_lt_1, mb_ge_1f, mb_lt_1t, not_true, not_false_iff, false_implies, true_implies, true_and, and_true, forall_eq, forall_const, eq_self, mb_e10, k1, k2]
          exact K'
      · simp (disch := omega) only [wX_findForwarder_2, nI_clamp, vp_in_nI, nI_1, nI_add, mb_lt_t, mb_lt_f, mb_le_t, mb_le_f, mb_ne, mb_lt0, mb_le0, mb_m1, mb_m1l, mb_m1g, mb_m1n, mb_x2, mb_x4, mb_x32, mb_lt_4, mb_le_4, mb_ge_4, mb_gt_4, mb_le_3, mb_gt_3, mb_le_7, mb_gt_7, mb_lt_32, mb_ge_32, mb_lt_128, mb_ge_128, mb_ge_1, mb_lt_1, mb_ge_1f, mb_lt_1t, not_true, not_false_iff, false_implies, true_implies, true_and, and_true, forall_eq, forall_const, eq_self, mb_e10, k1]
        exact K'
theorem mx_miss {post : Int32 → Prop} {t b : Int32} (hc : c ≤ 32) (hn : ∀ j, j < c → ¬ (kd j = 3 ∧ hm j = b ∧ lk j = t)) (K : post (-1)) : ∀ m i : Nat, i ≤ c → c - i < m → wX_findForwarder_2 post t b (nI n) (nI p) (nI nd) (nI c) par rev st pcs regs plen pop px py kd hm lk ht sl path m (nI i) := by
  intro m
  induction m with
  | zero => intro i _ z; omega
  | succ m ih =>
    intro i hi z
    by_cases e : i = c
    · subst e
      simp (disch := omega) only [wX_findForwarder_2, nI_clamp, vp_in_nI, nI_1, nI_add, mb_lt_t, mb_lt_f, mb_le_t, mb_le_f, mb_ne, mb_lt0, mb_le0, mb_m1, mb_m1l, mb_m1g, mb_m1n, mb_x2, mb_x4, mb_x32, mb_lt_4, mb_le_4, mb_ge_4, mb_gt_4, mb_le_3, mb_gt_3, mb_le_7, mb_gt_7, mb_lt_32, mb_ge_32, mb_lt_128, mb_ge_128, mb_ge_1, mb_lt_1, mb_ge_1f, mb_lt_1t, not_true, not_false_iff, false_implies, true_implies, true_and, and_true, forall_eq, forall_const, eq_self, mb_e10]
      exact K
    · have K' := ih (i + 1) (by omega) (by omega)
      have hno := hn i (by omega)
      by_cases k1 : kd i = 3
      · by_cases k2 : hm i = b
        · have k3 : ¬ lk i = t := fun z => hno ⟨k1, k2, z⟩
          simp (disch := omega) only [wX_findForwarder_2, nI_clamp, vp_in_nI, nI_1, nI_add, mb_lt_t, mb_lt_f, mb_le_t, mb_le_f, mb_ne, mb_lt0, mb_le0, mb_m1, mb_m1l, mb_m1g, mb_m1n, mb_x2, mb_x4, mb_x32, mb_lt_4, mb_le_4, mb_ge_4, mb_gt_4, mb_le_3, mb_gt_3, mb_le_7, mb_gt_7, mb_lt_32, mb_ge_32, mb_lt_128, mb_ge_128, mb_ge_1, mb_lt_1, mb_ge_1f, mb_lt_1t, not_true, not_false_iff, false_implies, true_implies, true_and, and_true, forall_eq, forall_const, eq_self, mb_e10, k1, k2, k3]
          exact K'
        · simp (disch := omega) only [wX_findForwarder_2, nI_clamp, vp_in_nI, nI_1, nI_add, mb_lt_t, mb_lt_f, mb_le_t, mb_le_f, mb_ne, mb_lt0, mb_le0, mb_m1, mb_m1l, mb_m1g, mb_m1n, mb_x2, mb_x4, mb_x32, mb_lt_4, mb_le_4, mb_ge_4, mb_gt_4, mb_le_3, mb_gt_3, mb_le_7, mb_gt_7, mb_lt_32, mb_ge_32, mb_lt_128, mb_ge_128, mb_ge_1, mb_lt_1, mb_ge_1f, mb_lt_1t, not_true, not_false_iff, false_implies, true_implies, true_and, and_true, forall_eq, forall_const, eq_self, mb_e10, k1, k2]
          exact K'
      · simp (disch := omega) only [wX_findForwarder_2, nI_clamp, vp_in_nI, nI_1, nI_add, mb_lt_t, mb_lt_f, mb_le_t, mb_le_f, mb_ne, mb_lt0, mb_le0, mb_m1, mb_m1l, mb_m1g, mb_m1n, mb_x2, mb_x4, mb_x32, mb_lt_4, mb_le_4, mb_ge_4, mb_gt_4, mb_le_3, mb_gt_3, mb_le_7, mb_gt_7, mb_lt_32, mb_ge_32, mb_lt_128, mb_ge_128, mb_ge_1, mb_lt_1, mb_ge_1f, mb_lt_1t, not_true, not_false_iff, false_implies, true_implies, true_and, and_true, forall_eq, forall_const, eq_self, mb_e10, k1]
        exact K'
/-- where the reference isn't a forwarder that goes home, the class looks for a forwarder -/
theorem mx_go {post : Int32 → St2 → Prop} {j a b : Nat} (hj : j < c) (hc : c ≤ 32) (o : mb_ob par nd j kd hm lk) (hno : ¬ (kd j = 3 ∧ hm j = nI a ∧ hm (lk j).toNatClampNeg = nI b))
    (K : wX_carry_49 post (nI j) (nI b) (nI n) (nI p) (nI nd) (nI c) par rev st pcs regs plen pop px py kd hm lk ht sl path) : wpX_carry post (nI n, nI p, nI nd, nI c, par, rev, st, pcs, regs, plen, pop, px, py, kd, hm, lk, ht, sl, path) (nI j) (nI a) (nI b) := by
  by_cases k3 : kd j = 3
  · obtain ⟨-, t, -, -, -, h1, et, -⟩ := mb_fw o k3
    by_cases e1 : hm j = nI a
    · have e2 : ¬ hm t = nI b := fun e => hno ⟨k3, e1, by rw [et, nI_clamp (by omega)]; exact e⟩
      simp (disch := omega) only [wpX_carry, nI_clamp, vp_in_nI, nI_1, nI_add, mb_lt_t, mb_lt_f, mb_le_t, mb_le_f, mb_ne, mb_lt0, mb_le0, mb_m1, mb_m1l, mb_m1g, mb_m1n, mb_x2, mb_x4, mb_x32, mb_lt_4, mb_le_4, mb_ge_4, mb_gt_4, mb_le_3, mb_gt_3, mb_le_7, mb_gt_7, mb_lt_32, mb_ge_32, mb_lt_128, mb_ge_128, mb_ge_1, mb_lt_1, mb_ge_1f, mb_lt_1t, not_true, not_false_iff, false_implies, true_implies, true_and, and_true, forall_eq, forall_const, eq_self, mb_e10, k3, e1, et, e2]
      exact K
    · simp (disch := omega) only [wpX_carry, nI_clamp, vp_in_nI, nI_1, nI_add, mb_lt_t, mb_lt_f, mb_le_t, mb_le_f, mb_ne, mb_lt0, mb_le0, mb_m1, mb_m1l, mb_m1g, mb_m1n, mb_x2, mb_x4, mb_x32, mb_lt_4, mb_le_4, mb_ge_4, mb_gt_4, mb_le_3, mb_gt_3, mb_le_7, mb_gt_7, mb_lt_32, mb_ge_32, mb_lt_128, mb_ge_128, mb_ge_1, mb_lt_1, mb_ge_1f, mb_lt_1t, not_true, not_false_iff, false_implies, true_implies, true_and, and_true, forall_eq, forall_const, eq_self, mb_e10, k3, e1]
      exact K
  · simp (disch := omega) only [wpX_carry, nI_clamp, vp_in_nI, nI_1, nI_add, mb_lt_t, mb_lt_f, mb_le_t, mb_le_f, mb_ne, mb_lt0, mb_le0, mb_m1, mb_m1l, mb_m1g, mb_m1n, mb_x2, mb_x4, mb_x32, mb_lt_4, mb_le_4, mb_ge_4, mb_gt_4, mb_le_3, mb_gt_3, mb_le_7, mb_gt_7, mb_lt_32, mb_ge_32, mb_lt_128, mb_ge_128, mb_ge_1, mb_lt_1, mb_ge_1f, mb_lt_1t, not_true, not_false_iff, false_implies, true_implies, true_and, and_true, forall_eq, forall_const, eq_self, mb_e10, k3]
    exact K
theorem mb_carry (H : mb_H n nd c par kd hm lk sl) {r : Int32} {a b : Nat} (hr : mb_rf c hm (nI a) r) (ha : a < nd) (hb : b < nd) (hab : mb_adj par a b) (ht : Nat → Int32) :
    ∃ (c' : Nat) (kd' hm' lk' ht' sl' : Nat → Int32) (rX : Int32), mb_H n nd c' par kd' hm' lk' sl' ∧ mb_E c kd hm lk c' kd' hm' lk' ∧ (∀ S, mb_Fr S c hm ht sl ht' sl') ∧ (mb_rf c' hm' (nI b) rX ∨ rX = -4) ∧
      (∀ (p : Nat) (rev st pcs regs plen pop px py path : Nat → Int32) (post : Int32 → St2 → Prop), post rX (nI n, nI p, nI nd, nI c', par, rev, st, pcs, regs, plen, pop, px, py, kd', hm', lk', ht', sl', path) → wpX_carry post (nI n, nI p, nI nd, nI c, par, rev, st, pcs, regs, plen, pop, px, py, kd, hm, lk, ht, sl, path) r (nI a) (nI b)) := by
  have hn : n ≤ 32 := H.2.1
  have hcn : c ≤ n := H.1
  rcases hr with rfl | ⟨j, hj, rfl, ej⟩
  · refine ⟨c, kd, hm, lk, ht, sl, -1, H, mb_E_rf, fun _ => mb_Fr_rf, Or.inl (Or.inl rfl), ?_⟩
    intro p rev st pcs regs plen pop px py path post K
    exact br_t rfl K
  · have o := mb_H_ob H hj
    by_cases hh : kd j = 3 ∧ hm j = nI a ∧ hm (lk j).toNatClampNeg = nI b
    · obtain ⟨k3, e1, e2⟩ := hh
      obtain ⟨-, t, -, -, -, h1, et, -⟩ := mb_fw o k3
      rw [et, nI_clamp (by omega)] at e2
      refine ⟨c, kd, hm, lk, ht, sl, nI t, H, mb_E_rf, fun _ => mb_Fr_rf, Or.inl (Or.inr ⟨t, by omega, rfl, e2⟩), ?_⟩
      intro p rev st pcs regs plen pop px py path post K
      simp (disch := omega) only [wpX_carry, nI_clamp, vp_in_nI, nI_1, nI_add, mb_lt_t, mb_lt_f, mb_le_t, mb_le_f, mb_ne, mb_lt0, mb_le0, mb_m1, mb_m1l, mb_m1g, mb_m1n, mb_x2, mb_x4, mb_x32, mb_lt_4, mb_le_4, mb_ge_4, mb_gt_4, mb_le_3, mb_gt_3, mb_le_7, mb_gt_7, mb_lt_32, mb_ge_32, mb_lt_128, mb_ge_128, mb_ge_1, mb_lt_1, mb_ge_1f, mb_lt_1t, not_true, not_false_iff, false_implies, true_implies, true_and, and_true, forall_eq, forall_const, eq_self, mb_e10, k3, e1, et, e2]
      exact K
    · rcases mb_first (fun f => kd f = 3 ∧ hm f = nI b ∧ lk f = nI j) c with ⟨f, hf, ⟨f1, f2, f3⟩, fm⟩ | fm
      · refine ⟨c, kd, hm, lk, ht, sl, nI f, H, mb_E_rf, fun _ => mb_Fr_rf, Or.inl (Or.inr ⟨f, hf, rfl, f2⟩), ?_⟩
        intro p rev st pcs regs plen pop px py path post K
        refine mx_go hj (by omega) o hh ?_
        refine ⟨c + 1, mx_hit hf (by omega) f1 f2 f3 fm ?_ (c + 1) 0 (by omega) (by omega)⟩
        exact br_f (mb_n1 (by omega)) K
      · by_cases hfull : c < n
        · refine ⟨c + 1, upd kd c 3, upd hm c (nI b), upd lk c (nI j), upd ht c 0, upd (upd sl (c * 2) (-1)) (c * 2 + 1) (-1), nI c, ?_, mb_mkE, fun _ => mb_mkF, Or.inl (Or.inr ⟨c, by omega, rfl, pk_us⟩), ?_⟩
          · refine mb_mk H hfull ?_ (fun _ => fm)
            refine ⟨b, hb, pk_us, Or.inr (Or.inr ⟨pk_us, j, a, hj, pk_us, ha, by rw [pk_un (by omega)]; exact ej, mb_adj_s hab, ?_⟩)⟩
            rw [pk_un (show j ≠ c by omega), pk_un (show j ≠ c by omega)]
            rintro ⟨k3, q⟩
            obtain ⟨-, t, -, -, -, h1, et, -⟩ := mb_fw o k3
            rw [et, nI_clamp (by omega), pk_un (by omega)] at q
            exact hh ⟨k3, ej, by rw [et, nI_clamp (by omega)]; exact q⟩
          · intro p rev st pcs regs plen pop px py path post K
            refine mx_go hj (by omega) o hh ?_
            refine ⟨c + 1, mx_miss (by omega) fm ?_ (c + 1) 0 (by omega) (by omega)⟩
            refine br_t rfl ?_
            exact mx_mk hfull hn K
        · refine ⟨c, kd, hm, lk, ht, sl, -4, H, mb_E_rf, fun _ => mb_Fr_rf, Or.inr rfl, ?_⟩
          intro p rev st pcs regs plen pop px py path post K
          refine mx_go hj (by omega) o hh ?_
          refine ⟨c + 1, mx_miss (by omega) fm ?_ (c + 1) 0 (by omega) (by omega)⟩
          refine br_t rfl ?_
          exact mx_full (by omega) (by omega) K
end
