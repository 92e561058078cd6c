section
variable {n p nd c : Nat} {par rev st pcs regs plen pop px py kd hm lk ht sl path : Nat → Int32} {f0 f1 f2 f3 : Int32} {b1 b2 b3 b4 b5 b6 b7 b8 b9 b10 b11 b12 b13 b14 b15 : Nat → Int32} {post : Int32 → Prop} {L : Nat} {xs : Nat → Int32} {J58 : Int32 → Int32 → Int32 → Int32 → Int32 → (Nat → Int32) → (Nat → Int32) → (Nat → Int32) → (Nat → Int32) → (Nat → Int32) → (Nat → Int32) → (Nat → Int32) → (Nat → Int32) → (Nat → Int32) → (Nat → Int32) → (Nat → Int32) → (Nat → Int32) → (Nat → Int32) → (Nat → Int32) → (Nat → Int32) → Int32 → Int32 → Int32 → Int32 → (Nat → Int32) → (Nat → Int32) → (Nat → Int32) → (Nat → Int32) → (Nat → Int32) → (Nat → Int32) → (Nat → Int32) → (Nat → Int32) → (Nat → Int32) → (Nat → Int32) → (Nat → Int32) → (Nat → Int32) → (Nat → Int32) → (Nat → Int32) → (Nat → Int32) → Prop} {x3 x4 : Int32} {kc ks : Nat}
theorem ml_32 : (32 ≤ nI 32) = True := eq_true (by decide)
theorem ml_2 {a : Nat} (h : a < 2) : (2 ≤ nI a) = False := eq_false (nI_ge (b := 2) h (by decide))
theorem ml_03 : ¬ (0 : Int32) = 3 := by decide
/-- no later forwarder has the same home and link -/
theorem ml_921 {J733 : Int32 → Prop} {x13 x14 : Int32} {o : Nat} (hc : c ≤ 32) (hu : ∀ g, o < g → g < c → ¬ (kd g = 3 ∧ hm g = x14 ∧ lk g = x13)) (K : J733 (nI (o + 1))) :
    ∀ m i : Nat, o < i → i ≤ 32 → 32 - i < m → wL_law_921 post L xs J58 J733 x3 x4 (nI o) x13 x14 kc ks (nI n) (nI p) (nI nd) (nI c) par rev st pcs regs plen pop px py kd hm lk ht sl path f0 f1 f2 f3 b1 b2 b3 b4 b5 b6 b7 b8 b9 b10 b11 b12 b13 b14 b15 m (nI i) := by
  intro m
  induction m with
  | zero => intro i _ _ z; omega
  | succ m ih =>
    intro i ho hi z
    by_cases e : i = 32
    · subst e
      simp (disch := omega) only [wL_law_921, ml_32, nI_clamp, vp_in_nI, nI_1, nI_add, mb_lt_t, mb_lt_f, mb_le_t, mb_le_f, mb_ne, mb_lt0, mb_le0, mb_m1, mb_m1l, mb_m1g, mb_m1n, mb_x2, mb_x4, mb_x32, mb_lt_4, mb_le_4, mb_ge_4, mb_gt_4, mb_le_3, mb_gt_3, mb_le_7, mb_gt_7, mb_lt_32, mb_ge_32, mb_lt_128, mb_ge_128, mb_ge_1, mb_lt_1, mb_ge_1f, mb_lt_1t, not_true, not_false_iff, false_implies, true_implies, true_and, and_true, forall_eq, forall_const, eq_self, mb_e10]
      exact K
    · have K' := ih (i + 1) (by omega) (by omega) (by omega)
      by_cases hic : i < c
      · have hno := hu i ho hic
        by_cases k1 : kd i = 3
        · by_cases k2 : hm i = x14
          · have k3 : ¬ lk i = x13 := fun z => hno ⟨k1, k2, z⟩
            simp (disch := omega) only [wL_law_921, mx_kind_t, mx_kind_f, mx_home_t, mx_link_t, mx_hits_t, mx_par_t, mx_par_f, mx_reg_t, nI_clamp, vp_in_nI, nI_1, nI_add, mb_lt_t, mb_lt_f, mb_le_t, mb_le_f, mb_ne, mb_lt0, mb_le0, mb_m1, mb_m1l, mb_m1g, mb_m1n, mb_x2, mb_x4, mb_x32, mb_lt_4, mb_le_4, mb_ge_4, mb_gt_4, mb_le_3, mb_gt_3, mb_le_7, mb_gt_7, mb_lt_32, mb_ge_32, mb_lt_128, mb_ge_128, mb_ge_1, mb_lt_1, mb_ge_1f, mb_lt_1t, not_true, not_false_iff, false_implies, true_implies, true_and, and_true, forall_eq, forall_const, eq_self, mb_e10, k1, k2, k3]
            exact K'
          · simp (disch := omega) only [wL_law_921, mx_kind_t, mx_kind_f, mx_home_t, mx_link_t, mx_hits_t, mx_par_t, mx_par_f, mx_reg_t, nI_clamp, vp_in_nI, nI_1, nI_add, mb_lt_t, mb_lt_f, mb_le_t, mb_le_f, mb_ne, mb_lt0, mb_le0, mb_m1, mb_m1l, mb_m1g, mb_m1n, mb_x2, mb_x4, mb_x32, mb_lt_4, mb_le_4, mb_ge_4, mb_gt_4, mb_le_3, mb_gt_3, mb_le_7, mb_gt_7, mb_lt_32, mb_ge_32, mb_lt_128, mb_ge_128, mb_ge_1, mb_lt_1, mb_ge_1f, mb_lt_1t, not_true, not_false_iff, false_implies, true_implies, true_and, and_true, forall_eq, forall_const, eq_self, mb_e10, k1, k2]
            exact K'
        · simp (disch := omega) only [wL_law_921, mx_kind_t, mx_kind_f, mx_home_t, mx_link_t, mx_hits_t, mx_par_t, mx_par_f, mx_reg_t, nI_clamp, vp_in_nI, nI_1, nI_add, mb_lt_t, mb_lt_f, mb_le_t, mb_le_f, mb_ne, mb_lt0, mb_le0, mb_m1, mb_m1l, mb_m1g, mb_m1n, mb_x2, mb_x4, mb_x32, mb_lt_4, mb_le_4, mb_ge_4, mb_gt_4, mb_le_3, mb_gt_3, mb_le_7, mb_gt_7, mb_lt_32, mb_ge_32, mb_lt_128, mb_ge_128, mb_ge_1, mb_lt_1, mb_ge_1f, mb_lt_1t, not_true, not_false_iff, false_implies, true_implies, true_and, and_true, forall_eq, forall_const, eq_self, mb_e10, k1]
          exact K'
      · simp (disch := omega) only [wL_law_921, mx_kind_t, mx_kind_f, mx_home_t, mx_link_t, mx_hits_t, mx_par_t, mx_par_f, mx_reg_t, nI_clamp, vp_in_nI, nI_1, nI_add, mb_lt_t, mb_lt_f, mb_le_t, mb_le_f, mb_ne, mb_lt0, mb_le0, mb_m1, mb_m1l, mb_m1g, mb_m1n, mb_x2, mb_x4, mb_x32, mb_lt_4, mb_le_4, mb_ge_4, mb_gt_4, mb_le_3, mb_gt_3, mb_le_7, mb_gt_7, mb_lt_32, mb_ge_32, mb_lt_128, mb_ge_128, mb_ge_1, mb_lt_1, mb_ge_1f, mb_lt_1t, not_true, not_false_iff, false_implies, true_implies, true_and, and_true, forall_eq, forall_const, eq_self, mb_e10, ml_03]
        exact K'
theorem ml_811_n {J733 : Int32 → Prop} {x12 : Int32} {o : Nat} (k : ¬ x12 = 3) (K : J733 (nI (o + 1))) : wL_law_811 post L xs J58 J733 x3 x4 (nI o) x12 kc ks (nI n) (nI p) (nI nd) (nI c) par rev st pcs regs plen pop px py kd hm lk ht sl path f0 f1 f2 f3 b1 b2 b3 b4 b5 b6 b7 b8 b9 b10 b11 b12 b13 b14 b15 := by
  simp (disch := omega) only [wL_law_811, nI_clamp, vp_in_nI, nI_1, nI_add, mb_lt_t, mb_lt_f, mb_le_t, mb_le_f, mb_ne, mb_lt0, mb_le0, mb_m1, mb_m1l, mb_m1g, mb_m1n, mb_x2, mb_x4, mb_x32, mb_lt_4, mb_le_4, mb_ge_4, mb_gt_4, mb_le_3, mb_gt_3, mb_le_7, mb_gt_7, mb_lt_32, mb_ge_32, mb_lt_128, mb_ge_128, mb_ge_1, mb_lt_1, mb_ge_1f, mb_lt_1t, not_true, not_false_iff, false_implies, true_implies, true_and, and_true, forall_eq, forall_const, eq_self, mb_e10, k]
  exact K
/-- a forwarder: its target, adjacency, no way home, no second one -/
theorem ml_811_f {J733 : Int32 → Prop} {o : Nat} (H : mb_H n nd c par kd hm lk sl) (ho : o < c) (k : kd o = 3) (K : J733 (nI (o + 1))) : wL_law_811 post L xs J58 J733 x3 x4 (nI o) 3 kc ks (nI n) (nI p) (nI nd) (nI c) par rev st pcs regs plen pop px py kd hm lk ht sl path f0 f1 f2 f3 b1 b2 b3 b4 b5 b6 b7 b8 b9 b10 b11 b12 b13 b14 b15 := by
  have hn : n ≤ 32 := H.2.1
  have hcn : c ≤ n := H.1
  have hnd : nd ≤ 4 := H.2.2.2.1
  obtain ⟨a, t, e, ha, ea, h1, et, he, ee, had, hno⟩ := mb_fw (mb_H_ob H ho) k
  have kt : ¬ kd t = 0 := by
    obtain ⟨-, -, -, ⟨q, -⟩ | ⟨q, -⟩ | ⟨q, -⟩⟩ := mb_H_ob H (show t < c by omega)
    · rw [q]; decide
    · rw [q]; decide
    · rw [q]; decide
  have hu : ∀ g, o < g → g < c → ¬ (kd g = 3 ∧ hm g = nI a ∧ lk g = nI t) := by
    rintro g hg hgc ⟨g1, g2, g3⟩
    exact H.2.2.2.2.2.2 o g hg hgc k g1 (g2.trans ea.symm) (g3.trans et.symm)
  have K1 := ml_921 (post := post) (L := L) (xs := xs) (J58 := J58) (x3 := x3) (x4 := x4) (kc := kc) (ks := ks) (n := n) (p := p) (nd := nd) (par := par) (rev := rev) (st := st) (pcs := pcs) (regs := regs) (plen := plen) (pop := pop) (px := px) (py := py) (ht := ht) (sl := sl) (path := path)
    (f0 := f0) (f1 := f1) (f2 := f2) (f3 := f3) (b1 := b1) (b2 := b2) (b3 := b3) (b4 := b4) (b5 := b5) (b6 := b6) (b7 := b7) (b8 := b8) (b9 := b9) (b10 := b10) (b11 := b11) (b12 := b12) (b13 := b13) (b14 := b14) (b15 := b15) (show c ≤ 32 by omega) hu K 33 (o + 1) (by omega) (by omega) (by omega)
  have K2 : wL_law_888 post L xs J58 J733 x3 x4 (nI o) (nI t) (nI a) kc ks (nI n) (nI p) (nI nd) (nI c) par rev st pcs regs plen pop px py kd hm lk ht sl path f0 f1 f2 f3 b1 b2 b3 b4 b5 b6 b7 b8 b9 b10 b11 b12 b13 b14 b15 := by
    by_cases k3 : kd t = 3
    · obtain ⟨-, t2, -, -, -, h2, et2, -⟩ := mb_fw (mb_H_ob H (show t < c by omega)) k3
      have hh : ¬ hm t2 = nI a := fun q => hno ⟨k3, by rw [et2, nI_clamp (by omega)]; exact q⟩
      simp (disch := omega) only [wL_law_888, mx_kind_t, mx_kind_f, mx_home_t, mx_link_t, mx_hits_t, mx_par_t, mx_par_f, mx_reg_t, nI_clamp, vp_in_nI, nI_1, nI_add, mb_lt_t, mb_lt_f, mb_le_t, mb_le_f, mb_ne, mb_lt0, mb_le0, mb_m1, mb_m1l, mb_m1g, mb_m1n, mb_x2, mb_x4, mb_x32, mb_lt_4, mb_le_4, mb_ge_4, mb_gt_4, mb_le_3, mb_gt_3, mb_le_7, mb_gt_7, mb_lt_32, mb_ge_32, mb_lt_128, mb_ge_128, mb_ge_1, mb_lt_1, mb_ge_1f, mb_lt_1t, not_true, not_false_iff, false_implies, true_implies, true_and, and_true, forall_eq, forall_const, eq_self, mb_e10, k3, et2, hh]
      exact ⟨33, K1⟩
    · simp (disch := omega) only [wL_law_888, mx_kind_t, mx_kind_f, mx_home_t, mx_link_t, mx_hits_t, mx_par_t, mx_par_f, mx_reg_t, nI_clamp, vp_in_nI, nI_1, nI_add, mb_lt_t, mb_lt_f, mb_le_t, mb_le_f, mb_ne, mb_lt0, mb_le0, mb_m1, mb_m1l, mb_m1g, mb_m1n, mb_x2, mb_x4, mb_x32, mb_lt_4, mb_le_4, mb_ge_4, mb_gt_4, mb_le_3, mb_gt_3, mb_le_7, mb_gt_7, mb_lt_32, mb_ge_32, mb_lt_128, mb_ge_128, mb_ge_1, mb_lt_1, mb_ge_1f, mb_lt_1t, not_true, not_false_iff, false_implies, true_implies, true_and, and_true, forall_eq, forall_const, eq_self, mb_e10, k3]
      exact ⟨33, K1⟩
  by_cases p1 : par e = nI a
  · simp (disch := omega) only [wL_law_811, mx_kind_t, mx_kind_f, mx_home_t, mx_link_t, mx_hits_t, mx_par_t, mx_par_f, mx_reg_t, nI_clamp, vp_in_nI, nI_1, nI_add, mb_lt_t, mb_lt_f, mb_le_t, mb_le_f, mb_ne, mb_lt0, mb_le0, mb_m1, mb_m1l, mb_m1g, mb_m1n, mb_x2, mb_x4, mb_x32, mb_lt_4, mb_le_4, mb_ge_4, mb_gt_4, mb_le_3, mb_gt_3, mb_le_7, mb_gt_7, mb_lt_32, mb_ge_32, mb_lt_128, mb_ge_128, mb_ge_1, mb_lt_1, mb_ge_1f, mb_lt_1t, not_true, not_false_iff, false_implies, true_implies, true_and, and_true, forall_eq, forall_const, eq_self, mb_e10, ea, et, ee, kt, p1]
    exact K2
  · have p2 : par a = nI e := had.resolve_right p1
    simp (disch := omega) only [wL_law_811, mx_kind_t, mx_kind_f, mx_home_t, mx_link_t, mx_hits_t, mx_par_t, mx_par_f, mx_reg_t, nI_clamp, vp_in_nI, nI_1, nI_add, mb_lt_t, mb_lt_f, mb_le_t, mb_le_f, mb_ne, mb_lt0, mb_le0, mb_m1, mb_m1l, mb_m1g, mb_m1n, mb_x2, mb_x4, mb_x32, mb_lt_4, mb_le_4, mb_ge_4, mb_gt_4, mb_le_3, mb_gt_3, mb_le_7, mb_gt_7, mb_lt_32, mb_ge_32, mb_lt_128, mb_ge_128, mb_ge_1, mb_lt_1, mb_ge_1f, mb_lt_1t, not_true, not_false_iff, false_implies, true_implies, true_and, and_true, forall_eq, forall_const, eq_self, mb_e10, ea, et, ee, kt, p1, p2]
    exact K2
/-- a reference of a domain, as the law asks for it -/
theorem ml_757 {J733 : Int32 → Prop} {o : Nat} (H : mb_H n nd c par kd hm lk sl) (ho : o < c) (k : kd o = 1) (K : J733 (nI (o + 1))) :
    ∃ m, wL_law_757 post L xs J58 J733 x3 x4 (nI o) 1 kc ks (nI n) (nI p) (nI nd) (nI c) par rev st pcs regs plen pop px py kd hm lk ht sl path f0 f1 f2 f3 b1 b2 b3 b4 b5 b6 b7 b8 b9 b10 b11 b12 b13 b14 b15 m 0 := by
  have hn : n ≤ 32 := H.2.1
  have hcn : c ≤ n := H.1
  have hnd : nd ≤ 4 := H.2.2.2.1
  have kn : ∀ j, j < c → ¬ kd j = 0 := by
    intro j hj
    obtain ⟨-, -, -, ⟨q, -⟩ | ⟨q, -⟩ | ⟨q, -⟩⟩ := mb_H_ob H hj
    · rw [q]; decide
    · rw [q]; decide
    · rw [q]; decide
  obtain ⟨s0, s1⟩ := H.2.2.2.2.2.1 o ho k
  have z2 : ¬ (2 : Int32) ≤ 0 := by decide
  have z21 : ¬ (2 : Int32) ≤ 1 := by decide
  have z22 : (2 : Int32) ≤ 2 := by decide
  have a01 : (0 : Int32) + 1 = 1 := by decide
  have a11 : (1 : Int32) + 1 = 2 := by decide
  have K0 : wL_law_811 post L xs J58 J733 x3 x4 (nI o) 1 kc ks (nI n) (nI p) (nI nd) (nI c) par rev st pcs regs plen pop px py kd hm lk ht sl path f0 f1 f2 f3 b1 b2 b3 b4 b5 b6 b7 b8 b9 b10 b11 b12 b13 b14 b15 := ml_811_n (by decide) K
  have W2 : wL_law_757 post L xs J58 J733 x3 x4 (nI o) 1 kc ks (nI n) (nI p) (nI nd) (nI c) par rev st pcs regs plen pop px py kd hm lk ht sl path f0 f1 f2 f3 b1 b2 b3 b4 b5 b6 b7 b8 b9 b10 b11 b12 b13 b14 b15 1 2 := br_t z22 K0
  have W1 : wL_law_757 post L xs J58 J733 x3 x4 (nI o) 1 kc ks (nI n) (nI p) (nI nd) (nI c) par rev st pcs regs plen pop px py kd hm lk ht sl path f0 f1 f2 f3 b1 b2 b3 b4 b5 b6 b7 b8 b9 b10 b11 b12 b13 b14 b15 2 1 := by
    rcases s1 with e | ⟨j, hj, ej, eh⟩
    · rw [wL_law_757]
      simp (disch := omega) only [mx_slot_1, mx_kind_t, mx_kind_f, mx_home_t, mx_link_t, mx_hits_t, mx_par_t, mx_par_f, mx_reg_t, nI_clamp, vp_in_nI, nI_1, nI_add, mb_lt_t, mb_lt_f, mb_le_t, mb_le_f, mb_ne, mb_lt0, mb_le0, mb_m1, mb_m1l, mb_m1g, mb_m1n, mb_x2, mb_x4, mb_x32, mb_lt_4, mb_le_4, mb_ge_4, mb_gt_4, mb_le_3, mb_gt_3, mb_le_7, mb_gt_7, mb_lt_32, mb_ge_32, mb_lt_128, mb_ge_128, mb_ge_1, mb_lt_1, mb_ge_1f, mb_lt_1t, not_true, not_false_iff, false_implies, true_implies, true_and, and_true, forall_eq, forall_const, eq_self, mb_e10, k, z21, a11, e]
      exact W2
    · have kj := kn j hj
      rw [wL_law_757]
      simp (disch := omega) only [mx_slot_1, mx_kind_t, mx_kind_f, mx_home_t, mx_link_t, mx_hits_t, mx_par_t, mx_par_f, mx_reg_t, nI_clamp, vp_in_nI, nI_1, nI_add, mb_lt_t, mb_lt_f, mb_le_t, mb_le_f, mb_ne, mb_lt0, mb_le0, mb_m1, mb_m1l, mb_m1g, mb_m1n, mb_x2, mb_x4, mb_x32, mb_lt_4, mb_le_4, mb_ge_4, mb_gt_4, mb_le_3, mb_gt_3, mb_le_7, mb_gt_7, mb_lt_32, mb_ge_32, mb_lt_128, mb_ge_128, mb_ge_1, mb_lt_1, mb_ge_1f, mb_lt_1t, not_true, not_false_iff, false_implies, true_implies, true_and, and_true, forall_eq, forall_const, eq_self, mb_e10, k, z21, a11, ej, kj, eh]
      exact W2
  refine ⟨3, ?_⟩
  rcases s0 with e | ⟨j, hj, ej, eh⟩
  · rw [wL_law_757]
    simp (disch := omega) only [mx_slot_0, mx_kind_t, mx_kind_f, mx_home_t, mx_link_t, mx_hits_t, mx_par_t, mx_par_f, mx_reg_t, nI_clamp, vp_in_nI, nI_1, nI_add, mb_lt_t, mb_lt_f, mb_le_t, mb_le_f, mb_ne, mb_lt0, mb_le0, mb_m1, mb_m1l, mb_m1g, mb_m1n, mb_x2, mb_x4, mb_x32, mb_lt_4, mb_le_4, mb_ge_4, mb_gt_4, mb_le_3, mb_gt_3, mb_le_7, mb_gt_7, mb_lt_32, mb_ge_32, mb_lt_128, mb_ge_128, mb_ge_1, mb_lt_1, mb_ge_1f, mb_lt_1t, not_true, not_false_iff, false_implies, true_implies, true_and, and_true, forall_eq, forall_const, eq_self, mb_e10, k, z2, a01, e]
    exact W1
  · have kj := kn j hj
    rw [wL_law_757]
    simp (disch := omega) only [mx_slot_0, mx_kind_t, mx_kind_f, mx_home_t, mx_link_t, mx_hits_t, mx_par_t, mx_par_f, mx_reg_t, nI_clamp, vp_in_nI, nI_1, nI_add, mb_lt_t, mb_lt_f, mb_le_t, mb_le_f, mb_ne, mb_lt0, mb_le0, mb_m1, mb_m1l, mb_m1g, mb_m1n, mb_x2, mb_x4, mb_x32, mb_lt_4, mb_le_4, mb_ge_4, mb_gt_4, mb_le_3, mb_gt_3, mb_le_7, mb_gt_7, mb_lt_32, mb_ge_32, mb_lt_128, mb_ge_128, mb_ge_1, mb_lt_1, mb_ge_1f, mb_lt_1t, not_true, not_false_iff, false_implies, true_implies, true_and, and_true, forall_eq, forall_const, eq_self, mb_e10, k, z2, a01, ej, kj, eh]
    exact W1
theorem ml_733 (H : mb_H n nd c par kd hm lk sl) {t : Nat} (K : J58 (nI (t + 1)) (nI n) (nI p) (nI nd) (nI c) par rev st pcs regs plen pop px py kd hm lk ht sl path f0 f1 f2 f3 b1 b2 b3 b4 b5 b6 b7 b8 b9 b10 b11 b12 b13 b14 b15) :
    ∀ m o : Nat, o ≤ 32 → 32 - o < m → wL_law_733 post L xs J58 x3 (nI t) kc ks (nI n) (nI p) (nI nd) (nI c) par rev st pcs regs plen pop px py kd hm lk ht sl path f0 f1 f2 f3 b1 b2 b3 b4 b5 b6 b7 b8 b9 b10 b11 b12 b13 b14 b15 m (nI o) := by
  have hn : n ≤ 32 := H.2.1
  have hcn : c ≤ n := H.1
  intro m
  induction m with
  | zero => intro o _ z; omega
  | succ m ih =>
    intro o ho z
    by_cases e : o = 32
    · subst e
      simp (disch := omega) only [wL_law_733, ml_32, nI_clamp, vp_in_nI, nI_1, nI_add, mb_lt_t, mb_lt_f, mb_le_t, mb_le_f, mb_ne, mb_lt0, mb_le0, mb_m1, mb_m1l, mb_m1g, mb_m1n, mb_x2, mb_x4, mb_x32, mb_lt_4, mb_le_4, mb_ge_4, mb_gt_4, mb_le_3, mb_gt_3, mb_le_7, mb_gt_7, mb_lt_32, mb_ge_32, mb_lt_128, mb_ge_128, mb_ge_1, mb_lt_1, mb_ge_1f, mb_lt_1t, not_true, not_false_iff, false_implies, true_implies, true_and, and_true, forall_eq, forall_const, eq_self, mb_e10]
      exact K
    · have K' := ih (o + 1) (by omega) (by omega)
      by_cases hoc : o < c
      · obtain ⟨-, -, -, ⟨q, -⟩ | ⟨q, -⟩ | ⟨q, -⟩⟩ := mb_H_ob H hoc
        · simp (disch := omega) only [wL_law_733, mx_kind_t, mx_kind_f, mx_home_t, mx_link_t, mx_hits_t, mx_par_t, mx_par_f, mx_reg_t, nI_clamp, vp_in_nI, nI_1, nI_add, mb_lt_t, mb_lt_f, mb_le_t, mb_le_f, mb_ne, mb_lt0, mb_le0, mb_m1, mb_m1l, mb_m1g, mb_m1n, mb_x2, mb_x4, mb_x32, mb_lt_4, mb_le_4, mb_ge_4, mb_gt_4, mb_le_3, mb_gt_3, mb_le_7, mb_gt_7, mb_lt_32, mb_ge_32, mb_lt_128, mb_ge_128, mb_ge_1, mb_lt_1, mb_ge_1f, mb_lt_1t, not_true, not_false_iff, false_implies, true_implies, true_and, and_true, forall_eq, forall_const, eq_self, mb_e10, q]
          exact ml_757 H hoc q K'
        · simp (disch := omega) only [wL_law_733, mx_kind_t, mx_kind_f, mx_home_t, mx_link_t, mx_hits_t, mx_par_t, mx_par_f, mx_reg_t, nI_clamp, vp_in_nI, nI_1, nI_add, mb_lt_t, mb_lt_f, mb_le_t, mb_le_f, mb_ne, mb_lt0, mb_le0, mb_m1, mb_m1l, mb_m1g, mb_m1n, mb_x2, mb_x4, mb_x32, mb_lt_4, mb_le_4, mb_ge_4, mb_gt_4, mb_le_3, mb_gt_3, mb_le_7, mb_gt_7, mb_lt_32, mb_ge_32, mb_lt_128, mb_ge_128, mb_ge_1, mb_lt_1, mb_ge_1f, mb_lt_1t, not_true, not_false_iff, false_implies, true_implies, true_and, and_true, forall_eq, forall_const, eq_self, mb_e10, mb_e01, mb_e02, mb_e03, mb_e04, mb_e05, mb_e06, mb_e07, mb_l00, mb_l02, mb_g50, mb_g60, mb_e10, mb_e12, mb_e13, mb_e14, mb_e15, mb_e16, mb_e17, mb_l10, mb_l12, mb_g51, mb_g61, mb_e20, mb_e21, mb_e23, mb_e24, mb_e25, mb_e26, mb_e27, mb_l20, mb_l22, mb_g52, mb_g62, mb_e30, mb_e31, mb_e32, mb_e34, mb_e35, mb_e36, mb_e37, mb_l30, mb_l32, mb_g53, mb_g63, mb_e40, mb_e41, mb_e42, mb_e43, mb_e45, mb_e46, mb_e47, mb_l40, mb_l42, mb_g54, mb_g64, mb_e50, mb_e51, mb_e52, mb_e53, mb_e54, mb_e56, mb_e57, mb_l50, mb_l52, mb_g55, mb_g65, mb_e60, mb_e61, mb_e62, mb_e63, mb_e64, mb_e65, mb_e67, mb_l60, mb_l62, mb_g56, mb_g66, mb_e70, mb_e71, mb_e72, mb_e73, mb_e74, mb_e75, mb_e76, mb_l70, mb_l72, mb_g57, mb_g67, q]
          exact ml_811_n (by decide) K'
        · simp (disch := omega) only [wL_law_733, mx_kind_t, mx_kind_f, mx_home_t, mx_link_t, mx_hits_t, mx_par_t, mx_par_f, mx_reg_t, nI_clamp, vp_in_nI, nI_1, nI_add, mb_lt_t, mb_lt_f, mb_le_t, mb_le_f, mb_ne, mb_lt0, mb_le0, mb_m1, mb_m1l, mb_m1g, mb_m1n, mb_x2, mb_x4, mb_x32, mb_lt_4, mb_le_4, mb_ge_4, mb_gt_4, mb_le_3, mb_gt_3, mb_le_7, mb_gt_7, mb_lt_32, mb_ge_32, mb_lt_128, mb_ge_128, mb_ge_1, mb_lt_1, mb_ge_1f, mb_lt_1t, not_true, not_false_iff, false_implies, true_implies, true_and, and_true, forall_eq, forall_const, eq_self, mb_e10, mb_e01, mb_e02, mb_e03, mb_e04, mb_e05, mb_e06, mb_e07, mb_l00, mb_l02, mb_g50, mb_g60, mb_e10, mb_e12, mb_e13, mb_e14, mb_e15, mb_e16, mb_e17, mb_l10, mb_l12, mb_g51, mb_g61, mb_e20, mb_e21, mb_e23, mb_e24, mb_e25, mb_e26, mb_e27, mb_l20, mb_l22, mb_g52, mb_g62, mb_e30, mb_e31, mb_e32, mb_e34, mb_e35, mb_e36, mb_e37, mb_l30, mb_l32, mb_g53, mb_g63, mb_e40, mb_e41, mb_e42, mb_e43, mb_e45, mb_e46, mb_e47, mb_l40, mb_l42, mb_g54, mb_g64, mb_e50, mb_e51, mb_e52, mb_e53, mb_e54, mb_e56, mb_e57, mb_l50, mb_l52, mb_g55, mb_g65, mb_e60, mb_e61, mb_e62, mb_e63, mb_e64, mb_e65, mb_e67, mb_l60, mb_l62, mb_g56, mb_g66, mb_e70, mb_e71, mb_e72, mb_e73, mb_e74, mb_e75, mb_e76, mb_l70, mb_l72, mb_g57, mb_g67, q]
          exact ml_811_f H hoc q K'
      · simp (disch := omega) only [wL_law_733, mx_kind_t, mx_kind_f, mx_home_t, mx_link_t, mx_hits_t, mx_par_t, mx_par_f, mx_reg_t, nI_clamp, vp_in_nI, nI_1, nI_add, mb_lt_t, mb_lt_f, mb_le_t, mb_le_f, mb_ne, mb_lt0, mb_le0, mb_m1, mb_m1l, mb_m1g, mb_m1n, mb_x2, mb_x4, mb_x32, mb_lt_4, mb_le_4, mb_ge_4, mb_gt_4, mb_le_3, mb_gt_3, mb_le_7, mb_gt_7, mb_lt_32, mb_ge_32, mb_lt_128, mb_ge_128, mb_ge_1, mb_lt_1, mb_ge_1f, mb_lt_1t, not_true, not_false_iff, false_implies, true_implies, true_and, and_true, forall_eq, forall_const, eq_self, mb_e10, mb_e01, mb_e02, mb_e03, mb_e04, mb_e05, mb_e06, mb_e07, mb_l00, mb_l02, mb_g50, mb_g60, mb_e10, mb_e12, mb_e13, mb_e14, mb_e15, mb_e16, mb_e17, mb_l10, mb_l12, mb_g51, mb_g61, mb_e20, mb_e21, mb_e23, mb_e24, mb_e25, mb_e26, mb_e27, mb_l20, mb_l22, mb_g52, mb_g62, mb_e30, mb_e31, mb_e32, mb_e34, mb_e35, mb_e36, mb_e37, mb_l30, mb_l32, mb_g53, mb_g63, mb_e40, mb_e41, mb_e42, mb_e43, mb_e45, mb_e46, mb_e47, mb_l40, mb_l42, mb_g54, mb_g64, mb_e50, mb_e51, mb_e52, mb_e53, mb_e54, mb_e56, mb_e57, mb_l50, mb_l52, mb_g55, mb_g65, mb_e60, mb_e61, mb_e62, mb_e63, mb_e64, mb_e65, mb_e67, mb_l60, mb_l62, mb_g56, mb_g66, mb_e70, mb_e71, mb_e72, mb_e73, mb_e74, mb_e75, mb_e76, mb_l70, mb_l72, mb_g57, mb_g67]
        exact ml_811_n (by decide) K'
theorem ml_4 : (4 ≤ nI 4) = True := eq_true (by decide)
theorem ml_674 {J651 : Int32 → Prop} (H : mb_H n nd c par kd hm lk sl) (R : mb_R nd c hm regs) {d : Nat} (hd : d < nd) (K : J651 (nI (d + 1))) :
    ∀ m r : Nat, r ≤ 4 → 4 - r < m → wL_law_674 post L xs J58 J651 x3 x4 (nI d) kc ks (nI n) (nI p) (nI nd) (nI c) par rev st pcs regs plen pop px py kd hm lk ht sl path f0 f1 f2 f3 b1 b2 b3 b4 b5 b6 b7 b8 b9 b10 b11 b12 b13 b14 b15 m (nI r) := by
  have hn : n ≤ 32 := H.2.1
  have hcn : c ≤ n := H.1
  have hnd : nd ≤ 4 := H.2.2.2.1
  intro m
  induction m with
  | zero => intro r _ z; omega
  | succ m ih =>
    intro r hr z
    by_cases e : r = 4
    · subst e
      simp (disch := omega) only [wL_law_674, ml_4, nI_clamp, vp_in_nI, nI_1, nI_add, mb_lt_t, mb_lt_f, mb_le_t, mb_le_f, mb_ne, mb_lt0, mb_le0, mb_m1, mb_m1l, mb_m1g, mb_m1n, mb_x2, mb_x4, mb_x32, mb_lt_4, mb_le_4, mb_ge_4, mb_gt_4, mb_le_3, mb_gt_3, mb_le_7, mb_gt_7, mb_lt_32, mb_ge_32, mb_lt_128, mb_ge_128, mb_ge_1, mb_lt_1, mb_ge_1f, mb_lt_1t, not_true, not_false_iff, false_implies, true_implies, true_and, and_true, forall_eq, forall_const, eq_self, mb_e10]
      exact K
    · have K' := ih (r + 1) (by omega) (by omega)
      rcases R.1 d r hd (by omega) with e1 | ⟨j, hj, ej, eh⟩
      · simp (disch := omega) only [wL_law_674, mx_kind_t, mx_kind_f, mx_home_t, mx_link_t, mx_hits_t, mx_par_t, mx_par_f, mx_reg_t, nI_clamp, vp_in_nI, nI_1, nI_add, mb_lt_t, mb_lt_f, mb_le_t, mb_le_f, mb_ne, mb_lt0, mb_le0, mb_m1, mb_m1l, mb_m1g, mb_m1n, mb_x2, mb_x4, mb_x32, mb_lt_4, mb_le_4, mb_ge_4, mb_gt_4, mb_le_3, mb_gt_3, mb_le_7, mb_gt_7, mb_lt_32, mb_ge_32, mb_lt_128, mb_ge_128, mb_ge_1, mb_lt_1, mb_ge_1f, mb_lt_1t, not_true, not_false_iff, false_implies, true_implies, true_and, and_true, forall_eq, forall_const, eq_self, mb_e10, e1]
        exact K'
      · have kj : ¬ kd j = 0 := by
          obtain ⟨-, -, -, ⟨q, -⟩ | ⟨q, -⟩ | ⟨q, -⟩⟩ := mb_H_ob H hj
          · rw [q]; decide
          · rw [q]; decide
          · rw [q]; decide
        simp (disch := omega) only [wL_law_674, mx_kind_t, mx_kind_f, mx_home_t, mx_link_t, mx_hits_t, mx_par_t, mx_par_f, mx_reg_t, nI_clamp, vp_in_nI, nI_1, nI_add, mb_lt_t, mb_lt_f, mb_le_t, mb_le_f, mb_ne, mb_lt0, mb_le0, mb_m1, mb_m1l, mb_m1g, mb_m1n, mb_x2, mb_x4, mb_x32, mb_lt_4, mb_le_4, mb_ge_4, mb_gt_4, mb_le_3, mb_gt_3, mb_le_7, mb_gt_7, mb_lt_32, mb_ge_32, mb_lt_128, mb_ge_128, mb_ge_1, mb_lt_1, mb_ge_1f, mb_lt_1t, not_true, not_false_iff, false_implies, true_implies, true_and, and_true, forall_eq, forall_const, eq_self, mb_e10, ej, kj, eh]
        exact K'
theorem mb_par2 (hP : mb_P nd par) (hnd : nd ≤ 4) {d : Nat} (hd : d < nd) : ¬ par d = -2 := by
  by_cases z : d = 0
  · subst z; rw [hP.1]; decide
  · obtain ⟨j, hj, e⟩ := hP.2 d (by omega) hd
    rw [e]; exact of_eq_false (mb_m1n (by omega))
/-- all that the law asks of the state after a call -/
theorem ml_651 (H : mb_H n nd c par kd hm lk sl) (hP : mb_P nd par) (R : mb_R nd c hm regs) {t : Nat} (K : J58 (nI (t + 1)) (nI n) (nI p) (nI nd) (nI c) par rev st pcs regs plen pop px py kd hm lk ht sl path f0 f1 f2 f3 b1 b2 b3 b4 b5 b6 b7 b8 b9 b10 b11 b12 b13 b14 b15) :
    ∀ m d : Nat, d ≤ 4 → 4 - d < m → wL_law_651 post L xs J58 x3 (nI t) kc ks (nI n) (nI p) (nI nd) (nI c) par rev st pcs regs plen pop px py kd hm lk ht sl path f0 f1 f2 f3 b1 b2 b3 b4 b5 b6 b7 b8 b9 b10 b11 b12 b13 b14 b15 m (nI d) := by
  have hnd : nd ≤ 4 := H.2.2.2.1
  intro m
  induction m with
  | zero => intro d _ z; omega
  | succ m ih =>
    intro d hd z
    by_cases e : d = 4
    · subst e
      simp (disch := omega) only [wL_law_651, ml_4, nI_clamp, vp_in_nI, nI_1, nI_add, mb_lt_t, mb_lt_f, mb_le_t, mb_le_f, mb_ne, mb_lt0, mb_le0, mb_m1, mb_m1l, mb_m1g, mb_m1n, mb_x2, mb_x4, mb_x32, mb_lt_4, mb_le_4, mb_ge_4, mb_gt_4, mb_le_3, mb_gt_3, mb_le_7, mb_gt_7, mb_lt_32, mb_ge_32, mb_lt_128, mb_ge_128, mb_ge_1, mb_lt_1, mb_ge_1f, mb_lt_1t, not_true, not_false_iff, false_implies, true_implies, true_and, and_true, forall_eq, forall_const, eq_self, mb_e10]
      exact ⟨33, ml_733 H K 33 0 (by omega) (by omega)⟩
    · have K' := ih (d + 1) (by omega) (by omega)
      by_cases hdn : d < nd
      · have p2 := mb_par2 hP hnd hdn
        simp (disch := omega) only [wL_law_651, mx_kind_t, mx_kind_f, mx_home_t, mx_link_t, mx_hits_t, mx_par_t, mx_par_f, mx_reg_t, nI_clamp, vp_in_nI, nI_1, nI_add, mb_lt_t, mb_lt_f, mb_le_t, mb_le_f, mb_ne, mb_lt0, mb_le0, mb_m1, mb_m1l, mb_m1g, mb_m1n, mb_x2, mb_x4, mb_x32, mb_lt_4, mb_le_4, mb_ge_4, mb_gt_4, mb_le_3, mb_gt_3, mb_le_7, mb_gt_7, mb_lt_32, mb_ge_32, mb_lt_128, mb_ge_128, mb_ge_1, mb_lt_1, mb_ge_1f, mb_lt_1t, not_true, not_false_iff, false_implies, true_implies, true_and, and_true, forall_eq, forall_const, eq_self, mb_e10, p2]
        exact ⟨5, ml_674 H R hdn K' 5 0 (by omega) (by omega)⟩
      · simp (disch := omega) only [wL_law_651, mx_kind_t, mx_kind_f, mx_home_t, mx_link_t, mx_hits_t, mx_par_t, mx_par_f, mx_reg_t, nI_clamp, vp_in_nI, nI_1, nI_add, mb_lt_t, mb_lt_f, mb_le_t, mb_le_f, mb_ne, mb_lt0, mb_le0, mb_m1, mb_m1l, mb_m1g, mb_m1n, mb_x2, mb_x4, mb_x32, mb_lt_4, mb_le_4, mb_ge_4, mb_gt_4, mb_le_3, mb_gt_3, mb_le_7, mb_gt_7, mb_lt_32, mb_ge_32, mb_lt_128, mb_ge_128, mb_ge_1, mb_lt_1, mb_ge_1f, mb_lt_1t, not_true, not_false_iff, false_implies, true_implies, true_and, and_true, forall_eq, forall_const, eq_self, mb_e10]
        exact K'
end
