section
variable {n p nd c : Nat} {par rev st pcs regs plen pop px py kd hm lk ht sl path : Nat → Int32} {nd' c' : Nat} {par' rev' st' pcs' regs' plen' pop' px' py' kd' hm' lk' ht' sl' path' : Nat → Int32} {post : Int32 → Prop} {L : Nat} {xs : Nat → Int32} {J58 : Int32 → Int32 → Int32 → Int32 → Int32 → (Nat → Int32) → (Nat → Int32) → (Nat → Int32) → (Nat → Int32) → (Nat → Int32) → (Nat → Int32) → (Nat → Int32) → (Nat → Int32) → (Nat → Int32) → (Nat → Int32) → (Nat → Int32) → (Nat → Int32) → (Nat → Int32) → (Nat → Int32) → (Nat → Int32) → Int32 → Int32 → Int32 → Int32 → (Nat → Int32) → (Nat → Int32) → (Nat → Int32) → (Nat → Int32) → (Nat → Int32) → (Nat → Int32) → (Nat → Int32) → (Nat → Int32) → (Nat → Int32) → (Nat → Int32) → (Nat → Int32) → (Nat → Int32) → (Nat → Int32) → (Nat → Int32) → (Nat → Int32) → Prop} {x3 x4 : Int32} {kc ks : Nat} {J203 : Int32 → Int32 → Int32 → Int32 → Int32 → (Nat → Int32) → (Nat → Int32) → (Nat → Int32) → (Nat → Int32) → (Nat → Int32) → (Nat → Int32) → (Nat → Int32) → (Nat → Int32) → (Nat → Int32) → (Nat → Int32) → (Nat → Int32) → (Nat → Int32) → (Nat → Int32) → (Nat → Int32) → (Nat → Int32) → Int32 → Int32 → Int32 → Int32 → (Nat → Int32) → (Nat → Int32) → (Nat → Int32) → (Nat → Int32) → (Nat → Int32) → (Nat → Int32) → (Nat → Int32) → (Nat → Int32) → (Nat → Int32) → (Nat → Int32) → (Nat → Int32) → (Nat → Int32) → (Nat → Int32) → (Nat → Int32) → (Nat → Int32) → Prop} {J395 J558 : Int32 → Prop} {x5 x7 x8 x9 x10 x11 x13 x14 x15 : Int32}
/-- what a call may change: of a run by a domain behind a revoked membrane nothing outside -/
def mb_Q (x5 x10 : Int32) (nd c : Nat) (par rev regs kd hm lk ht sl : Nat → Int32) (nd' c' : Nat) (rev' regs' kd' hm' lk' ht' sl' : Nat → Int32) : Prop :=
  mb_M nd rev nd' rev' ∧ ((x5 = 5 ∨ x5 = 7) → nd' = nd ∧ mb_E c kd hm lk c' kd' hm' lk' ∧ ∀ S : Int32 → Prop, mb_cl par rev nd S → S x10 → mb_Fr S c hm ht sl ht' sl' ∧ mb_Fg S nd regs regs')
theorem ml_597 {x16 : Int32} {e : Nat} (he : e < nd) (he' : e < nd') (hnd : nd ≤ 4) (hnd' : nd' ≤ 4) (hr : ∀ r, r < 4 → regs' (e * 4 + r) = regs (e * 4 + r)) (K : J558 (nI (e + 1))) :
    ∀ m r : Nat, r ≤ 4 → 4 - r < m → wL_law_597 post L xs J58 J203 J395 J558 x3 x4 x5 x7 x8 x9 x10 x11 x13 x14 x15 x16 (nI e) kc ks (nI n) (nI p) (nI nd') (nI c') par' rev' st' pcs' regs' plen' pop' px' py' kd' hm' lk' ht' sl' path' (nI n) (nI p) (nI nd) (nI c) par rev st pcs regs plen pop px py kd hm lk ht sl path m (nI r) := by
  intro m
  induction m with
  | zero => intro r _ z; omega
  | succ m ih =>
    intro r hr4 z
    by_cases e4 : r = 4
    · subst e4
      simp (disch := omega) only [wL_law_597, ml_4, nI_clamp, vp_in_nI, nI_1, nI_add, mb_lt_t, mb_lt_f, mb_le_t, mb_le_f, mb_ne, mb_lt0, mb_le0, mb_m1, mb_m1l, mb_m1g, mb_m1n, mb_x2, mb_x4, mb_x32, mb_lt_4, mb_le_4, mb_ge_4, mb_gt_4, mb_le_3, mb_gt_3, mb_le_7, mb_gt_7, mb_lt_32, mb_ge_32, mb_lt_128, mb_ge_128, mb_ge_1, mb_lt_1, mb_ge_1f, mb_lt_1t, not_true, not_false_iff, false_implies, true_implies, true_and, and_true, forall_eq, forall_const, eq_self, mb_e10]
      exact K
    · have K' := ih (r + 1) (by omega) (by omega)
      have e1 := hr r (by omega)
      simp (disch := omega) only [wL_law_597, mx_kind_t, mx_kind_f, mx_home_t, mx_link_t, mx_hits_t, mx_par_t, mx_par_f, mx_reg_t, nI_clamp, vp_in_nI, nI_1, nI_add, mb_lt_t, mb_lt_f, mb_le_t, mb_le_f, mb_ne, mb_lt0, mb_le0, mb_m1, mb_m1l, mb_m1g, mb_m1n, mb_x2, mb_x4, mb_x32, mb_lt_4, mb_le_4, mb_ge_4, mb_gt_4, mb_le_3, mb_gt_3, mb_le_7, mb_gt_7, mb_lt_32, mb_ge_32, mb_lt_128, mb_ge_128, mb_ge_1, mb_lt_1, mb_ge_1f, mb_lt_1t, not_true, not_false_iff, false_implies, true_implies, true_and, and_true, forall_eq, forall_const, eq_self, mb_e10, e1]
      exact K'
theorem ml_558 {m : Nat} (hP : mb_P nd par) (hnd : nd ≤ 4) (hnd' : nd' ≤ 4) (en : nd' = nd) (F : mb_Fg (mb_sb (nI m) x13 x14 x15 5) nd regs regs') (K : J395 (nI (m + 1))) :
    ∀ w e : Nat, e ≤ 4 → 4 - e < w → wL_law_558 post L xs J58 J203 J395 x3 x4 x5 x7 x8 x9 x10 x11 x13 x14 x15 (nI m) kc ks (nI n) (nI p) (nI nd') (nI c') par' rev' st' pcs' regs' plen' pop' px' py' kd' hm' lk' ht' sl' path' (nI n) (nI p) (nI nd) (nI c) par rev st pcs regs plen pop px py kd hm lk ht sl path w (nI e) := by
  intro w
  induction w with
  | zero => intro e _ z; omega
  | succ w ih =>
    intro e he z
    by_cases e4 : e = 4
    · subst e4
      simp (disch := omega) only [wL_law_558, ml_4, nI_clamp, vp_in_nI, nI_1, nI_add, mb_lt_t, mb_lt_f, mb_le_t, mb_le_f, mb_ne, mb_lt0, mb_le0, mb_m1, mb_m1l, mb_m1g, mb_m1n, mb_x2, mb_x4, mb_x32, mb_lt_4, mb_le_4, mb_ge_4, mb_gt_4, mb_le_3, mb_gt_3, mb_le_7, mb_gt_7, mb_lt_32, mb_ge_32, mb_lt_128, mb_ge_128, mb_ge_1, mb_lt_1, mb_ge_1f, mb_lt_1t, not_true, not_false_iff, false_implies, true_implies, true_and, and_true, forall_eq, forall_const, eq_self, mb_e10]
      exact K
    · have K' := ih (e + 1) (by omega) (by omega)
      by_cases hen : e < nd
      · have p2 := mb_par2 hP hnd hen
        simp (disch := omega) only [wL_law_558, mx_kind_t, mx_kind_f, mx_home_t, mx_link_t, mx_hits_t, mx_par_t, mx_par_f, mx_reg_t, nI_clamp, vp_in_nI, nI_1, nI_add, mb_lt_t, mb_lt_f, mb_le_t, mb_le_f, mb_ne, mb_lt0, mb_le0, mb_m1, mb_m1l, mb_m1g, mb_m1n, mb_x2, mb_x4, mb_x32, mb_lt_4, mb_le_4, mb_ge_4, mb_gt_4, mb_le_3, mb_gt_3, mb_le_7, mb_gt_7, mb_lt_32, mb_ge_32, mb_lt_128, mb_ge_128, mb_ge_1, mb_lt_1, mb_ge_1f, mb_lt_1t, not_true, not_false_iff, false_implies, true_implies, true_and, and_true, forall_eq, forall_const, eq_self, mb_e10, p2]
        refine ml_sub (fun s => ?_) (fun s => ?_)
        · simp (disch := omega) only [nI_clamp, vp_in_nI, nI_1, nI_add, mb_lt_t, mb_lt_f, mb_le_t, mb_le_f, mb_ne, mb_lt0, mb_le0, mb_m1, mb_m1l, mb_m1g, mb_m1n, mb_x2, mb_x4, mb_x32, mb_lt_4, mb_le_4, mb_ge_4, mb_gt_4, mb_le_3, mb_gt_3, mb_le_7, mb_gt_7, mb_lt_32, mb_ge_32, mb_lt_128, mb_ge_128, mb_ge_1, mb_lt_1, mb_ge_1f, mb_lt_1t, not_true, not_false_iff, false_implies, true_implies, true_and, and_true, forall_eq, forall_const, eq_self, mb_e10]
          exact K'
        · simp (disch := omega) only [nI_clamp, vp_in_nI, nI_1, nI_add, mb_lt_t, mb_lt_f, mb_le_t, mb_le_f, mb_ne, mb_lt0, mb_le0, mb_m1, mb_m1l, mb_m1g, mb_m1n, mb_x2, mb_x4, mb_x32, mb_lt_4, mb_le_4, mb_ge_4, mb_gt_4, mb_le_3, mb_gt_3, mb_le_7, mb_gt_7, mb_lt_32, mb_ge_32, mb_lt_128, mb_ge_128, mb_ge_1, mb_lt_1, mb_ge_1f, mb_lt_1t, not_true, not_false_iff, false_implies, true_implies, true_and, and_true, forall_eq, forall_const, eq_self, mb_e10]
          exact ⟨5, ml_597 hen (by omega) hnd hnd' (F e hen s) K' 5 0 (by omega) (by omega)⟩
      · simp (disch := omega) only [wL_law_558, mx_kind_t, mx_kind_f, mx_home_t, mx_link_t, mx_hits_t, mx_par_t, mx_par_f, mx_reg_t, nI_clamp, vp_in_nI, nI_1, nI_add, mb_lt_t, mb_lt_f, mb_le_t, mb_le_f, mb_ne, mb_lt0, mb_le0, mb_m1, mb_m1l, mb_m1g, mb_m1n, mb_x2, mb_x4, mb_x32, mb_lt_4, mb_le_4, mb_ge_4, mb_gt_4, mb_le_3, mb_gt_3, mb_le_7, mb_gt_7, mb_lt_32, mb_ge_32, mb_lt_128, mb_ge_128, mb_ge_1, mb_lt_1, mb_ge_1f, mb_lt_1t, not_true, not_false_iff, false_implies, true_implies, true_and, and_true, forall_eq, forall_const, eq_self, mb_e10]
        exact K'
theorem ml_459 {m : Nat} (H : mb_H n nd c par kd hm lk sl) (hP : mb_P nd par) (hc' : c' ≤ 32) (hnd' : nd' ≤ 4) (en : nd' = nd) (E : mb_E c kd hm lk c' kd' hm' lk')
    (Fr : mb_Fr (mb_sb (nI m) x13 x14 x15 5) c hm ht sl ht' sl') (Fg : mb_Fg (mb_sb (nI m) x13 x14 x15 5) nd regs regs') (K : J395 (nI (m + 1))) :
    ∀ w o : Nat, o ≤ 32 → 32 - o < w → wL_law_459 post L xs J58 J203 J395 x3 x4 x5 x7 x8 x9 x10 x11 x13 x14 x15 (nI m) kc ks (nI n) (nI p) (nI nd') (nI c') par' rev' st' pcs' regs' plen' pop' px' py' kd' hm' lk' ht' sl' path' (nI n) (nI p) (nI nd) (nI c) par rev st pcs regs plen pop px py kd hm lk ht sl path w (nI o) := by
  have hn : n ≤ 32 := H.2.1
  have hcn : c ≤ n := H.1
  have hnd : nd ≤ 4 := H.2.2.2.1
  have hcc : c ≤ c' := E.1
  intro w
  induction w with
  | zero => intro o _ z; omega
  | succ w ih =>
    intro o ho z
    by_cases e32 : o = 32
    · subst e32
      simp (disch := omega) only [wL_law_459, ml_32, nI_clamp, vp_in_nI, nI_1, nI_add, mb_lt_t, mb_lt_f, mb_le_t, mb_le_f, mb_ne, mb_lt0, mb_le0, mb_m1, mb_m1l, mb_m1g, mb_m1n, mb_x2, mb_x4, mb_x32, mb_lt_4, mb_le_4, mb_ge_4, mb_gt_4, mb_le_3, mb_gt_3, mb_le_7, mb_gt_7, mb_lt_32, mb_ge_32, mb_lt_128, mb_ge_128, mb_ge_1, mb_lt_1, mb_ge_1f, mb_lt_1t, not_true, not_false_iff, false_implies, true_implies, true_and, and_true, forall_eq, forall_const, eq_self, mb_e10]
      exact ⟨5, ml_558 hP hnd hnd' en Fg K 5 0 (by omega) (by omega)⟩
    · have K' := ih (o + 1) (by omega) (by omega)
      by_cases hoc : o < c
      · have kj : ¬ kd o = 0 := by
          obtain ⟨-, -, -, ⟨q, -⟩ | ⟨q, -⟩ | ⟨q, -⟩⟩ := mb_H_ob H hoc
          · rw [q]; decide
          · rw [q]; decide
          · rw [q]; decide
        have ek := (E.2 o hoc).1
        simp (disch := omega) only [wL_law_459, mx_kind_t, mx_home_t, nI_clamp, vp_in_nI, nI_1, nI_add, mb_lt_t, mb_lt_f, mb_le_t, mb_le_f, mb_ne, mb_lt0, mb_le0, mb_m1, mb_m1l, mb_m1g, mb_m1n, mb_x2, mb_x4, mb_x32, mb_lt_4, mb_le_4, mb_ge_4, mb_gt_4, mb_le_3, mb_gt_3, mb_le_7, mb_gt_7, mb_lt_32, mb_ge_32, mb_lt_128, mb_ge_128, mb_ge_1, mb_lt_1, mb_ge_1f, mb_lt_1t, not_true, not_false_iff, false_implies, true_implies, true_and, and_true, forall_eq, forall_const, eq_self, mb_e10, kj]
        refine ml_sub (fun s => ?_) (fun s => ?_)
        · simp (disch := omega) only [nI_clamp, vp_in_nI, nI_1, nI_add, mb_lt_t, mb_lt_f, mb_le_t, mb_le_f, mb_ne, mb_lt0, mb_le0, mb_m1, mb_m1l, mb_m1g, mb_m1n, mb_x2, mb_x4, mb_x32, mb_lt_4, mb_le_4, mb_ge_4, mb_gt_4, mb_le_3, mb_gt_3, mb_le_7, mb_gt_7, mb_lt_32, mb_ge_32, mb_lt_128, mb_ge_128, mb_ge_1, mb_lt_1, mb_ge_1f, mb_lt_1t, not_true, not_false_iff, false_implies, true_implies, true_and, and_true, forall_eq, forall_const, eq_self, mb_e10]
          exact K'
        · obtain ⟨f1, f2, f3⟩ := Fr o hoc s
          by_cases k1 : kd o = 1
          · have k1' : kd' o = 1 := ek.trans k1
            simp (disch := omega) only [not_true, not_false_iff, false_implies, true_implies, true_and, and_true, forall_eq, forall_const, eq_self, mb_e10, mx_hits_t, f1, mx_slot_0 (show o < c' by omega) hc' k1', mx_slot_0 hoc (show c ≤ 32 by omega) k1, mx_slot_1 (show o < c' by omega) hc' k1', mx_slot_1 hoc (show c ≤ 32 by omega) k1, f2, f3, nI_1]
            exact K'
          · have k1' : ¬ kd' o = 1 := fun q => k1 (ek.symm.trans q)
            simp (disch := omega) only [not_true, not_false_iff, false_implies, true_implies, true_and, and_true, forall_eq, forall_const, eq_self, mb_e10, mx_hits_t, f1, mx_slot_n (show o < c' by omega) hc' k1', mx_slot_n hoc (show c ≤ 32 by omega) k1, nI_1]
            exact K'
      · simp (disch := omega) only [wL_law_459, mx_kind_t, mx_kind_f, mx_home_t, mx_link_t, mx_hits_t, mx_par_t, mx_par_f, mx_reg_t, nI_clamp, vp_in_nI, nI_1, nI_add, mb_lt_t, mb_lt_f, mb_le_t, mb_le_f, mb_ne, mb_lt0, mb_le0, mb_m1, mb_m1l, mb_m1g, mb_m1n, mb_x2, mb_x4, mb_x32, mb_lt_4, mb_le_4, mb_ge_4, mb_gt_4, mb_le_3, mb_gt_3, mb_le_7, mb_gt_7, mb_lt_32, mb_ge_32, mb_lt_128, mb_ge_128, mb_ge_1, mb_lt_1, mb_ge_1f, mb_lt_1t, not_true, not_false_iff, false_implies, true_implies, true_and, and_true, forall_eq, forall_const, eq_self, mb_e10]
        exact K'
theorem ml_3 {a : Nat} (h : a < 4) : (3 < nI a) = False := eq_false (nI_nlt (a := 3) (by omega) (by decide))
theorem ml_3t : (3 < nI 4) = True := eq_true (by decide)
/-- the loop over the membranes -/
theorem ml_395 (H : mb_H n nd c par kd hm lk sl) (hP : mb_P nd par) (hpp : mb_pp nd par x13 x14 x15) (hc' : c' ≤ 32) (hnd' : nd' ≤ 4) (Q : mb_Q x5 x10 nd c par rev regs kd hm lk ht sl nd' c' rev' regs' kd' hm' lk' ht' sl') (K : J203 1 (nI n) (nI p) (nI nd') (nI c') par' rev' st' pcs' regs' plen' pop' px' py' kd' hm' lk' ht' sl' path' (nI n) (nI p) (nI nd) (nI c) par rev st pcs regs plen pop px py kd hm lk ht sl path) :
    ∀ w m : Nat, 1 ≤ m → m ≤ 4 → 4 - m < w → wL_law_395 post L xs J58 J203 x3 x4 x5 x7 x8 x9 x10 0 x13 x14 x15 kc ks (nI n) (nI p) (nI nd') (nI c') par' rev' st' pcs' regs' plen' pop' px' py' kd' hm' lk' ht' sl' path' (nI n) (nI p) (nI nd) (nI c) par rev st pcs regs plen pop px py kd hm lk ht sl path w (nI m) := by
  have hn : n ≤ 32 := H.2.1
  have hcn : c ≤ n := H.1
  have hnd : nd ≤ 4 := H.2.2.2.1
  have hM : nd ≤ nd' := Q.1.1
  have a01 : (0 : Int32) + 1 = 1 := by decide
  intro w
  induction w with
  | zero => intro m _ _ z; omega
  | succ w ih =>
    intro m hm1 hm4 z
    by_cases e4 : m = 4
    · subst e4
      simp (disch := omega) only [wL_law_395, ml_3t, not_true, not_false_iff, false_implies, true_implies, true_and, and_true, forall_eq, forall_const, eq_self, mb_e10, a01]
      exact K
    · have K' := ih (m + 1) (by omega) (by omega) (by omega)
      by_cases rv : m < nd ∧ ¬ rev m = 0
      · obtain ⟨hmn, rv⟩ := rv
        have rv' : ¬ rev' m = 0 := Q.1.2 m hmn rv
        have K437 : (x5 = 5 ∨ x5 = 7) → wL_law_437 post L xs J58 J203 (wL_law_395 post L xs J58 J203 x3 x4 x5 x7 x8 x9 x10 0 x13 x14 x15 kc ks (nI n) (nI p) (nI nd') (nI c') par' rev' st' pcs' regs' plen' pop' px' py' kd' hm' lk' ht' sl' path' (nI n) (nI p) (nI nd) (nI c) par rev st pcs regs plen pop px py kd hm lk ht sl path w) x3 x4 x5 x7 x8 x9 x10 0 x13 x14 x15 (nI m) kc ks (nI n) (nI p) (nI nd') (nI c') par' rev' st' pcs' regs' plen' pop' px' py' kd' hm' lk' ht' sl' path' (nI n) (nI p) (nI nd) (nI c) par rev st pcs regs plen pop px py kd hm lk ht sl path := by
          intro h57
          obtain ⟨en, E, F⟩ := Q.2 h57
          have cl : mb_cl par rev nd (mb_sb (nI m) x13 x14 x15 5) := mb_cls hpp hP hnd hm1 hmn rv
          unfold wL_law_437
          refine ml_sub (fun s => ?_) (fun s => ?_)
          · obtain ⟨f1, f2⟩ := F _ cl s
            refine br_f (by decide) ?_
            exact ⟨33, ml_459 H hP hc' hnd' en E f1 f2 K' 33 0 (by omega) (by omega)⟩
          · refine br_t rfl ?_
            refine nm_r (nI_1 m) ?_
            exact K'
        by_cases h5 : x5 = 5
        · have K5 := K437 (Or.inl h5)
          simp (disch := omega) only [wL_law_395, ml_3, mx_rvd_t hm1 hmn hnd rv, mx_rvd_t hm1 (show m < nd' by omega) hnd' rv', not_true, not_false_iff, false_implies, true_implies, true_and, and_true, forall_eq, forall_const, eq_self, mb_e10]
          exact br_t h5 K5
        · by_cases h7 : x5 = 7
          · have K7 := K437 (Or.inr h7)
            simp (disch := omega) only [wL_law_395, ml_3, mx_rvd_t hm1 hmn hnd rv, mx_rvd_t hm1 (show m < nd' by omega) hnd' rv', not_true, not_false_iff, false_implies, true_implies, true_and, and_true, forall_eq, forall_const, eq_self, mb_e10]
            exact br_f h5 (br_t h7 K7)
          · simp (disch := omega) only [wL_law_395, ml_3, mx_rvd_t hm1 hmn hnd rv, mx_rvd_t hm1 (show m < nd' by omega) hnd' rv', not_true, not_false_iff, false_implies, true_implies, true_and, and_true, forall_eq, forall_const, eq_self, mb_e10, nI_1]
            exact br_f h5 (br_f h7 K')
      · have rv0 : m < nd → rev m = 0 := fun h => Classical.byContradiction (fun q => rv ⟨h, q⟩)
        simp (disch := omega) only [wL_law_395, ml_3, mx_rvd_f hm1 (show m < 4 by omega) hnd rv0, not_true, not_false_iff, false_implies, true_implies, true_and, and_true, forall_eq, forall_const, eq_self, mb_e10, nI_1]
        exact K'
theorem mx_par_v {i : Nat} (hi : i < 4) (hnd : nd ≤ 4) : ∃ v : Int32, (i < nd → v = par i) ∧ ∀ (n p c : Nat) (rev st pcs regs plen pop px py kd hm lk ht sl path : Nat → Int32) (post : Int32 → Prop), post v → wpX_parent post (nI n, nI p, nI nd, nI c, par, rev, st, pcs, regs, plen, pop, px, py, kd, hm, lk, ht, sl, path) (nI i) := by
  by_cases h : i < nd
  · exact ⟨par i, fun _ => rfl, fun n p c rev st pcs regs plen pop px py kd hm lk ht sl path post K => by rw [mx_par_t h hnd]; exact K⟩
  · exact ⟨-2, fun z => absurd z h, fun n p c rev st pcs regs plen pop px py kd hm lk ht sl path post K => by rw [mx_par_f (by omega) (by omega)]; exact K⟩
/-- behind the first call: the comparison with the state before -/
theorem ml_362a (H : mb_H n nd c par kd hm lk sl) (hP : mb_P nd par) (hc' : c' ≤ 32) (hnd' : nd' ≤ 4) (Q : mb_Q x5 x10 nd c par rev regs kd hm lk ht sl nd' c' rev' regs' kd' hm' lk' ht' sl') (K : J203 1 (nI n) (nI p) (nI nd') (nI c') par' rev' st' pcs' regs' plen' pop' px' py' kd' hm' lk' ht' sl' path' (nI n) (nI p) (nI nd) (nI c) par rev st pcs regs plen pop px py kd hm lk ht sl path) :
    wL_law_362 post L xs J58 J203 x3 x4 x5 x7 x8 x9 x10 0 kc ks (nI n) (nI p) (nI nd') (nI c') par' rev' st' pcs' regs' plen' pop' px' py' kd' hm' lk' ht' sl' path' (nI n) (nI p) (nI nd) (nI c) par rev st pcs regs plen pop px py kd hm lk ht sl path := by
  have hnd : nd ≤ 4 := H.2.2.2.1
  obtain ⟨v1, e1, w1⟩ := mx_par_v (par := par) (i := 1) (by omega) hnd
  obtain ⟨v2, e2, w2⟩ := mx_par_v (par := par) (i := 2) (by omega) hnd
  obtain ⟨v3, e3, w3⟩ := mx_par_v (par := par) (i := 3) (by omega) hnd
  unfold wL_law_362
  refine br_f (by decide) ?_
  refine w1 n p c rev st pcs regs plen pop px py kd hm lk ht sl path _ ?_
  refine w2 n p c rev st pcs regs plen pop px py kd hm lk ht sl path _ ?_
  refine w3 n p c rev st pcs regs plen pop px py kd hm lk ht sl path _ ?_
  exact ⟨4, ml_395 H hP ⟨e1, e2, e3⟩ hc' hnd' Q K 4 1 (by omega) (by omega) (by omega)⟩
end
