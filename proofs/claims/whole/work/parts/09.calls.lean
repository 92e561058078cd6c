section
variable {n p nd c : Nat} {par rev st pcs regs plen pop px py kd hm lk ht sl path hx he : Nat → Int32} {flt : Int32}
theorem mb_nar0 : vp_nar .boolean 0 = 0 := by first | rfl | decide
/-- the registers after i rounds of both constructors' loops -/
def mb_rg (i : Nat) : Nat → Int32 := fun j => if j < i then -1 else 0
theorem mb_rg_s (i : Nat) : upd (mb_rg i) i (-1) = mb_rg (i + 1) := by
  funext j
  by_cases e : j = i
  · rw [e, pk_us]; exact (if_pos (by omega)).symm
  · rw [pk_un e]
    by_cases z : j < i
    · exact (if_pos z).trans (if_pos (by omega)).symm
    · exact (if_neg z).trans (if_neg (by omega)).symm
theorem mb_ge_16 {a : Nat} (h : a < 16) : (16 ≤ nI a) = False := eq_false (nI_ge (b := 16) h (by decide))
theorem mx_il {post : SX → Prop} {f0 f1 f2 f3 : Int32} (K : post (f0, f1, f2, f3, par, rev, st, pcs, mb_rg 16, plen, pop, px, py, kd, hm, lk, ht, sl, path)) :
    ∀ m i : Nat, i ≤ 16 → 16 - i < m → wX_init_157 post f0 f1 f2 f3 m (nI i) par rev st pcs (mb_rg i) plen pop px py kd hm lk ht sl path := by
  intro m
  induction m with
  | zero => intro i _ z; omega
  | succ m ih =>
    intro i hi z
    by_cases e : i = 16
    · subst e
      exact br_t (by decide) K
    · have K' := ih (i + 1) (by omega) (by omega)
      have a : i < 16 := by omega
      simp (disch := omega) only [wX_init_157, nI_clamp, vp_in_nI, nI_1, nI_add, mb_lt_t, mb_lt_f, mb_le_t, mb_le_f, mb_ne, mb_lt0, mb_le0, mb_m1, mb_m1l, mb_m1g, mb_m1n, mb_x2, mb_x4, mb_x32, mb_lt_4, mb_le_4, mb_ge_4, mb_gt_4, mb_le_3, mb_gt_3, mb_le_7, mb_gt_7, mb_lt_32, mb_ge_32, mb_lt_128, mb_ge_128, mb_ge_1, mb_lt_1, mb_ge_1f, mb_lt_1t, not_true, not_false_iff, false_implies, true_implies, true_and, and_true, forall_eq, forall_const, eq_self, mb_e10, mb_ge_16, mb_rg_s]
      exact K'
theorem my_il {post : SY → Prop} {f0 f1 f2 f3 f4 : Int32} {s0 s1 : Nat → Int32} (K : post (f0, f1, f2, f3, f4, par, rev, mb_rg 16, pop, px, py, plen, pcs, st, kd, hm, lk, s0, s1, ht, hx, he)) :
    ∀ m i : Nat, i ≤ 16 → 16 - i < m → wY_init_211 post f0 f1 f2 f3 f4 m (nI i) par rev (mb_rg i) pop px py plen pcs st kd hm lk s0 s1 ht hx he := by
  intro m
  induction m with
  | zero => intro i _ z; omega
  | succ m ih =>
    intro i hi z
    by_cases e : i = 16
    · subst e
      exact br_t (by decide) K
    · have K' := ih (i + 1) (by omega) (by omega)
      have a : i < 16 := by omega
      simp (disch := omega) only [wY_init_211, nI_clamp, vp_in_nI, nI_1, nI_add, mb_lt_t, mb_lt_f, mb_le_t, mb_le_f, mb_ne, mb_lt0, mb_le0, mb_m1, mb_m1l, mb_m1g, mb_m1n, mb_x2, mb_x4, mb_x32, mb_lt_4, mb_le_4, mb_ge_4, mb_gt_4, mb_le_3, mb_gt_3, mb_le_7, mb_gt_7, mb_lt_32, mb_ge_32, mb_lt_128, mb_ge_128, mb_ge_1, mb_lt_1, mb_ge_1f, mb_lt_1t, not_true, not_false_iff, false_implies, true_implies, true_and, and_true, forall_eq, forall_const, eq_self, mb_e10, mb_ge_16, mb_rg_s]
      exact K'
def mb_CP (x : Int32) (q : Nat) : Prop := 8 ≤ q ∧ q ≤ 32 ∧ ((¬ 8 ≤ x ∧ q = 8) ∨ (8 ≤ x ∧ ¬ x ≤ 32 ∧ q = 32) ∨ (8 ≤ x ∧ x ≤ 32 ∧ x = nI q))
theorem mb_cp (x : Int32) : ∃ q, mb_CP x q := by
  by_cases h : 8 ≤ x
  · by_cases h2 : x ≤ 32
    · have h0 : ¬ x < 0 := Int32.not_lt.mpr (Int32.le_trans (by decide) h)
      obtain ⟨q, hq, rfl⟩ := nI_of h0
      have a : 8 ≤ q := (nI_leI (a := 8) (by omega) hq).mp h
      have b : q ≤ 32 := (nI_leI (b := 32) hq (by omega)).mp h2
      exact ⟨q, a, b, Or.inr (Or.inr ⟨h, h2, rfl⟩)⟩
    · exact ⟨32, by omega, by omega, Or.inr (Or.inl ⟨h, h2, rfl⟩)⟩
  · exact ⟨8, by omega, by omega, Or.inl ⟨h, rfl⟩⟩
theorem mx_cp {post : Int32 → Prop} {x : Int32} {q : Nat} (h : mb_CP x q) (K : post (nI q)) : wpX_clampSize post x := by
  rcases h with ⟨-, -, ⟨a, rfl⟩ | ⟨a, b, rfl⟩ | ⟨a, b, rfl⟩⟩
  · exact br_f a K
  · exact br_t a (br_f b K)
  · exact br_t a (br_t b K)
theorem my_cp2 {post : SY → Prop} {x f0 : Int32} {q : Nat} {f1 f2 f3 f4 : Int32} {s0 s1 : Nat → Int32} (h : mb_CP x q)
    (K : wY_init_189 post (nI q) f0 f1 f2 f3 f4 par rev regs pop px py plen pcs st kd hm lk s0 s1 ht hx he) : ∀ f, wY_init_162 post x f0 f f1 f2 f3 f4 par rev regs pop px py plen pcs st kd hm lk s0 s1 ht hx he := by
  intro f
  rcases h with ⟨-, -, ⟨a, rfl⟩ | ⟨a, b, rfl⟩ | ⟨a, b, rfl⟩⟩
  · exact br_f a K
  · exact br_t a (br_f b K)
  · exact br_t a (br_t b K)
theorem i_vc0 (k0 : Int32) (k1 : Int32) : wpX_init (fun u => wpY_init (fun v => i_Rel 2 u v) k0 k1) k0 k1 := by
  obtain ⟨n, h1⟩ := mb_cp k0
  obtain ⟨p, h2⟩ := mb_cp k1
  refine mx_cp h1 ?_
  refine mx_cp h2 ?_
  refine nm_e ⟨17, ?_⟩
  refine mx_il ?_ 17 0 (by omega) (by omega)
  have K : i_Rel 2 (nI n, nI p, nI 1, nI 0, (upd (fun _ => 0) 0 (-1)), (fun _ => 0), (fun _ => 0), (fun _ => 0), (mb_rg 16), (fun _ => 0), (fun _ => 0), (fun _ => 0), (fun _ => 0), (fun _ => 0), (fun _ => 0), (fun _ => 0), (fun _ => 0), (fun _ => 0), (fun _ => 0))
      (nI n, nI p, nI 1, nI 0, 0, (upd (fun _ => 0) 0 (-1)), (fun _ => 0), (mb_rg 16), (fun _ => 0), (fun _ => 0), (fun _ => 0), (fun _ => 0), (fun _ => 0), (fun _ => 0), (fun _ => 0), (fun _ => 0), (fun _ => 0), (mb_ev (fun _ => 0)), (mb_od (fun _ => 0)), (fun _ => 0), (fun _ => 0), (fun _ => 0)) := by
    refine mb_i ⟨⟨by omega, h1.2.1, by omega, by omega, fun i hi => absurd hi (by omega), fun j hj => absurd hj (by omega)⟩, h1.1, h2.1, h2.2.1, ⟨pk_us, fun i a b => absurd b (by omega)⟩, ?_, ?_, ?_⟩
    · intro i _ hi
      refine ⟨rfl, rfl, rfl, rfl, fun r hr => if_pos (by omega)⟩
    · intro j hj
      exact Or.inl (if_pos hj)
    · intro d hd
      exact ⟨0, 0, by omega, by omega, rfl, rfl, fun k hk => absurd hk (by omega)⟩
  have Y0 : ∀ f, wY_init_162 (fun v => i_Rel 2 (nI n, nI p, nI 1, nI 0, (upd (fun _ => 0) 0 (-1)), (fun _ => 0), (fun _ => 0), (fun _ => 0), (mb_rg 16), (fun _ => 0), (fun _ => 0), (fun _ => 0), (fun _ => 0), (fun _ => 0), (fun _ => 0), (fun _ => 0), (fun _ => 0), (fun _ => 0), (fun _ => 0)) v) k1 (nI n) f 0 0 0 0 (fun _ => 0) (fun _ => 0) (fun _ => 0) (fun _ => 0) (fun _ => 0) (fun _ => 0) (fun _ => 0) (fun _ => 0) (fun _ => 0) (fun _ => 0) (fun _ => 0) (fun _ => 0) (fun _ => 0) (fun _ => 0) (fun _ => 0) (fun _ => 0) (fun _ => 0) := by
    refine my_cp2 h2 ?_
    refine nm_e ⟨17, ?_⟩
    exact my_il K 17 0 (by omega) (by omega)
  obtain ⟨-, -, ⟨a, rfl⟩ | ⟨a, b, rfl⟩ | ⟨a, b, rfl⟩⟩ := h1
  · exact br_f a (Y0 0)
  · exact br_t a (br_f b (Y0 0))
  · exact br_t a (br_t b (Y0 0))
theorem i_vc_newBox {k : Nat} {u : SX} {v : SY} (I : i_Rel k u v) (hk : k + 5 ≤ 2562) (v1 : Int32) : wpX_newBox (fun r u' => wpY_newBox (fun r' v' => r' = r ∧ i_Rel (k + 5) u' v') v v1) u v1 := by
  obtain ⟨n, p, nd, c, par, rev, st, pcs, regs, plen, pop, px, py, kd, hm, lk, ht, sl, path, hx, he, flt, rfl, rfl, I⟩ := I
  obtain ⟨H, hn8, hp8, hp, hP, hF, hR, hG⟩ := id I
  have hn : n ≤ 32 := H.2.1
  have hcn : c ≤ n := H.1
  have hnd : nd ≤ 4 := H.2.2.2.1
  have hnd1 : 1 ≤ nd := H.2.2.1
  rcases mb_ix v1 (n := nd) (by omega) with ⟨z1, z2⟩ | ⟨z1, z2, z3, z4⟩ | ⟨d, hd, rfl⟩
  · simp (disch := omega) only [wpX_newBox, wpX_domainExists, wpY_newBox, nI_clamp, vp_in_nI, nI_1, nI_add, mb_lt_t, mb_lt_f, mb_le_t, mb_le_f, mb_ne, mb_lt0, mb_le0, mb_m1, mb_m1l, mb_m1g, mb_m1n, mb_x2, mb_x4, mb_x32, mb_lt_4, mb_le_4, mb_ge_4, mb_gt_4, mb_le_3, mb_gt_3, mb_le_7, mb_gt_7, mb_lt_32, mb_ge_32, mb_lt_128, mb_ge_128, mb_ge_1, mb_lt_1, mb_ge_1f, mb_lt_1t, not_true, not_false_iff, false_implies, true_implies, true_and, and_true, forall_eq, forall_const, eq_self, mb_e10, z1, z2]
    exact mb_i I
  · simp (disch := omega) only [wpX_newBox, wpX_domainExists, wpY_newBox, nI_clamp, vp_in_nI, nI_1, nI_add, mb_lt_t, mb_lt_f, mb_le_t, mb_le_f, mb_ne, mb_lt0, mb_le0, mb_m1, mb_m1l, mb_m1g, mb_m1n, mb_x2, mb_x4, mb_x32, mb_lt_4, mb_le_4, mb_ge_4, mb_gt_4, mb_le_3, mb_gt_3, mb_le_7, mb_gt_7, mb_lt_32, mb_ge_32, mb_lt_128, mb_ge_128, mb_ge_1, mb_lt_1, mb_ge_1f, mb_lt_1t, not_true, not_false_iff, false_implies, true_implies, true_and, and_true, forall_eq, forall_const, eq_self, mb_e10, z1, z2, z3, z4]
    exact mb_i I
  · by_cases hc : c < n
    · simp (disch := omega) only [wpX_newBox, wpX_domainExists, wpY_newBox, nI_clamp, vp_in_nI, nI_1, nI_add, mb_lt_t, mb_lt_f, mb_le_t, mb_le_f, mb_ne, mb_lt0, mb_le0, mb_m1, mb_m1l, mb_m1g, mb_m1n, mb_x2, mb_x4, mb_x32, mb_lt_4, mb_le_4, mb_ge_4, mb_gt_4, mb_le_3, mb_gt_3, mb_le_7, mb_gt_7, mb_lt_32, mb_ge_32, mb_lt_128, mb_ge_128, mb_ge_1, mb_lt_1, mb_ge_1f, mb_lt_1t, not_true, not_false_iff, false_implies, true_implies, true_and, and_true, forall_eq, forall_const, eq_self, mb_e10]
      refine mx_mk hc hn ?_
      simp (disch := omega) only [wpX_isFault, nI_clamp, vp_in_nI, nI_1, nI_add, mb_lt_t, mb_lt_f, mb_le_t, mb_le_f, mb_ne, mb_lt0, mb_le0, mb_m1, mb_m1l, mb_m1g, mb_m1n, mb_x2, mb_x4, mb_x32, mb_lt_4, mb_le_4, mb_ge_4, mb_gt_4, mb_le_3, mb_gt_3, mb_le_7, mb_gt_7, mb_lt_32, mb_ge_32, mb_lt_128, mb_ge_128, mb_ge_1, mb_lt_1, mb_ge_1f, mb_lt_1t, not_true, not_false_iff, false_implies, true_implies, true_and, and_true, forall_eq, forall_const, eq_self, mb_e10]
      exact my_mk (by omega) ⟨rfl, mb_i ⟨mb_mk H hc ⟨⟨d, hd, rfl⟩, Or.inl ⟨rfl, rfl⟩⟩, hn8, hp8, hp, hP, hF, mb_R_up hR (by omega), hG⟩⟩
    · simp (disch := omega) only [wpX_newBox, wpX_domainExists, wpY_newBox, nI_clamp, vp_in_nI, nI_1, nI_add, mb_lt_t, mb_lt_f, mb_le_t, mb_le_f, mb_ne, mb_lt0, mb_le0, mb_m1, mb_m1l, mb_m1g, mb_m1n, mb_x2, mb_x4, mb_x32, mb_lt_4, mb_le_4, mb_ge_4, mb_gt_4, mb_le_3, mb_gt_3, mb_le_7, mb_gt_7, mb_lt_32, mb_ge_32, mb_lt_128, mb_ge_128, mb_ge_1, mb_lt_1, mb_ge_1f, mb_lt_1t, not_true, not_false_iff, false_implies, true_implies, true_and, and_true, forall_eq, forall_const, eq_self, mb_e10]
      refine mx_full (by omega) (by omega) ?_
      simp (disch := omega) only [wpX_isFault, nI_clamp, vp_in_nI, nI_1, nI_add, mb_lt_t, mb_lt_f, mb_le_t, mb_le_f, mb_ne, mb_lt0, mb_le0, mb_m1, mb_m1l, mb_m1g, mb_m1n, mb_x2, mb_x4, mb_x32, mb_lt_4, mb_le_4, mb_ge_4, mb_gt_4, mb_le_3, mb_gt_3, mb_le_7, mb_gt_7, mb_lt_32, mb_ge_32, mb_lt_128, mb_ge_128, mb_ge_1, mb_lt_1, mb_ge_1f, mb_lt_1t, not_true, not_false_iff, false_implies, true_implies, true_and, and_true, forall_eq, forall_const, eq_self, mb_e10, show ¬ ((-1 : Int32) ≤ -4) from by decide]
      exact mb_i I
theorem i_vc_revoke {k : Nat} {u : SX} {v : SY} (I : i_Rel k u v) (hk : k + 5 ≤ 2562) (v1 : Int32) : wpX_revoke (fun r u' => wpY_revoke (fun r' v' => r' = r ∧ i_Rel (k + 5) u' v') v v1) u v1 := by
  obtain ⟨n, p, nd, c, par, rev, st, pcs, regs, plen, pop, px, py, kd, hm, lk, ht, sl, path, hx, he, flt, rfl, rfl, I⟩ := I
  obtain ⟨H, hn8, hp8, hp, hP, hF, hR, hG⟩ := id I
  have hn : n ≤ 32 := H.2.1
  have hcn : c ≤ n := H.1
  have hnd : nd ≤ 4 := H.2.2.2.1
  have hnd1 : 1 ≤ nd := H.2.2.1
  rcases mb_ixm v1 (n := nd) (by omega) with z | ⟨z1, z2, z3⟩ | ⟨j, hj1, hj, rfl⟩
  · simp (disch := omega) only [wpX_revoke, wpX_membraneExists, wpY_revoke, nI_clamp, vp_in_nI, nI_1, nI_add, mb_lt_t, mb_lt_f, mb_le_t, mb_le_f, mb_ne, mb_lt0, mb_le0, mb_m1, mb_m1l, mb_m1g, mb_m1n, mb_x2, mb_x4, mb_x32, mb_lt_4, mb_le_4, mb_ge_4, mb_gt_4, mb_le_3, mb_gt_3, mb_le_7, mb_gt_7, mb_lt_32, mb_ge_32, mb_lt_128, mb_ge_128, mb_ge_1, mb_lt_1, mb_ge_1f, mb_lt_1t, not_true, not_false_iff, false_implies, true_implies, true_and, and_true, forall_eq, forall_const, eq_self, mb_e10, z]
    exact mb_i I
  · simp (disch := omega) only [wpX_revoke, wpX_membraneExists, wpY_revoke, nI_clamp, vp_in_nI, nI_1, nI_add, mb_lt_t, mb_lt_f, mb_le_t, mb_le_f, mb_ne, mb_lt0, mb_le0, mb_m1, mb_m1l, mb_m1g, mb_m1n, mb_x2, mb_x4, mb_x32, mb_lt_4, mb_le_4, mb_ge_4, mb_gt_4, mb_le_3, mb_gt_3, mb_le_7, mb_gt_7, mb_lt_32, mb_ge_32, mb_lt_128, mb_ge_128, mb_ge_1, mb_lt_1, mb_ge_1f, mb_lt_1t, not_true, not_false_iff, false_implies, true_implies, true_and, and_true, forall_eq, forall_const, eq_self, mb_e10, z1, z2, z3]
    exact mb_i I
  · by_cases r : rev j = 0
    · simp (disch := omega) only [wpX_revoke, wpX_membraneExists, wpY_revoke, nI_clamp, vp_in_nI, nI_1, nI_add, mb_lt_t, mb_lt_f, mb_le_t, mb_le_f, mb_ne, mb_lt0, mb_le0, mb_m1, mb_m1l, mb_m1g, mb_m1n, mb_x2, mb_x4, mb_x32, mb_lt_4, mb_le_4, mb_ge_4, mb_gt_4, mb_le_3, mb_gt_3, mb_le_7, mb_gt_7, mb_lt_32, mb_ge_32, mb_lt_128, mb_ge_128, mb_ge_1, mb_lt_1, mb_ge_1f, mb_lt_1t, not_true, not_false_iff, false_implies, true_implies, true_and, and_true, forall_eq, forall_const, eq_self, mb_e10, r]
      exact mb_i ⟨H, hn8, hp8, hp, hP, mb_F_rev hF hj _, hR, hG⟩
    · simp (disch := omega) only [wpX_revoke, wpX_membraneExists, wpY_revoke, nI_clamp, vp_in_nI, nI_1, nI_add, mb_lt_t, mb_lt_f, mb_le_t, mb_le_f, mb_ne, mb_lt0, mb_le0, mb_m1, mb_m1l, mb_m1g, mb_m1n, mb_x2, mb_x4, mb_x32, mb_lt_4, mb_le_4, mb_ge_4, mb_gt_4, mb_le_3, mb_gt_3, mb_le_7, mb_gt_7, mb_lt_32, mb_ge_32, mb_lt_128, mb_ge_128, mb_ge_1, mb_lt_1, mb_ge_1f, mb_lt_1t, not_true, not_false_iff, false_implies, true_implies, true_and, and_true, forall_eq, forall_const, eq_self, mb_e10, r]
      exact mb_i I
theorem i_vc_run {k : Nat} {u : SX} {v : SY} (I : i_Rel k u v) (hk : k + 5 ≤ 2562) (v1 : Int32) (v2 : Int32) : wpX_run (fun r u' => wpY_run (fun r' v' => r' = r ∧ i_Rel (k + 5) u' v') v v1 v2) u v1 v2 := by
  obtain ⟨n, p, nd, c, par, rev, st, pcs, regs, plen, pop, px, py, kd, hm, lk, ht, sl, path, hx, he, flt, rfl, rfl, I⟩ := I
  obtain ⟨H, hn8, hp8, hp, hP, hF, hR, hG⟩ := id I
  have hn : n ≤ 32 := H.2.1
  have hcn : c ≤ n := H.1
  have hnd : nd ≤ 4 := H.2.2.2.1
  have hnd1 : 1 ≤ nd := H.2.2.1
  rcases mb_ix v1 (n := nd) (by omega) with ⟨z1, z2⟩ | ⟨z1, z2, z3, z4⟩ | ⟨d, hd, rfl⟩
  · simp (disch := omega) only [wpX_run, wpX_domainExists, wpY_run, nI_clamp, vp_in_nI, nI_1, nI_add, mb_lt_t, mb_lt_f, mb_le_t, mb_le_f, mb_ne, mb_lt0, mb_le0, mb_m1, mb_m1l, mb_m1g, mb_m1n, mb_x2, mb_x4, mb_x32, mb_lt_4, mb_le_4, mb_ge_4, mb_gt_4, mb_le_3, mb_gt_3, mb_le_7, mb_gt_7, mb_lt_32, mb_ge_32, mb_lt_128, mb_ge_128, mb_ge_1, mb_lt_1, mb_ge_1f, mb_lt_1t, not_true, not_false_iff, false_implies, true_implies, true_and, and_true, forall_eq, forall_const, eq_self, mb_e10, z1, z2]
    exact mb_i I
  · simp (disch := omega) only [wpX_run, wpX_domainExists, wpY_run, nI_clamp, vp_in_nI, nI_1, nI_add, mb_lt_t, mb_lt_f, mb_le_t, mb_le_f, mb_ne, mb_lt0, mb_le0, mb_m1, mb_m1l, mb_m1g, mb_m1n, mb_x2, mb_x4, mb_x32, mb_lt_4, mb_le_4, mb_ge_4, mb_gt_4, mb_le_3, mb_gt_3, mb_le_7, mb_gt_7, mb_lt_32, mb_ge_32, mb_lt_128, mb_ge_128, mb_ge_1, mb_lt_1, mb_ge_1f, mb_lt_1t, not_true, not_false_iff, false_implies, true_implies, true_and, and_true, forall_eq, forall_const, eq_self, mb_e10, z1, z2, z3, z4]
    exact mb_i I
  · by_cases r : st d = 0
    · obtain ⟨l, q, a1, a2, a3, a4, -⟩ := hG d (by omega)
      obtain ⟨c', kd', hm', lk', ht', sl', rev', st', pcs', regs', path', hx', he', flt', r', I2, jX, jY⟩ := mb_run hd v2 (l - q) c rev pcs regs kd hm lk ht sl path hx he flt l q 0 I a3 a4 a1 a2 (Nat.le_refl _)
      simp (disch := omega) only [wpX_run, wpX_domainExists, wpY_run, nI_clamp, vp_in_nI, nI_1, nI_add, mb_lt_t, mb_lt_f, mb_le_t, mb_le_f, mb_ne, mb_lt0, mb_le0, mb_m1, mb_m1l, mb_m1g, mb_m1n, mb_x2, mb_x4, mb_x32, mb_lt_4, mb_le_4, mb_ge_4, mb_gt_4, mb_le_3, mb_gt_3, mb_le_7, mb_gt_7, mb_lt_32, mb_ge_32, mb_lt_128, mb_ge_128, mb_ge_1, mb_lt_1, mb_ge_1f, mb_lt_1t, not_true, not_false_iff, false_implies, true_implies, true_and, and_true, forall_eq, forall_const, eq_self, mb_e10, r]
      refine ⟨l - q + 1, jX _ ?_ (l - q + 1) (by omega)⟩
      exact ⟨l - q + 1, jY _ ⟨rfl, mb_i I2⟩ (l - q + 1) (by omega)⟩
    · simp (disch := omega) only [wpX_run, wpX_domainExists, wpY_run, nI_clamp, vp_in_nI, nI_1, nI_add, mb_lt_t, mb_lt_f, mb_le_t, mb_le_f, mb_ne, mb_lt0, mb_le0, mb_m1, mb_m1l, mb_m1g, mb_m1n, mb_x2, mb_x4, mb_x32, mb_lt_4, mb_le_4, mb_ge_4, mb_gt_4, mb_le_3, mb_gt_3, mb_le_7, mb_gt_7, mb_lt_32, mb_ge_32, mb_lt_128, mb_ge_128, mb_ge_1, mb_lt_1, mb_ge_1f, mb_lt_1t, not_true, not_false_iff, false_implies, true_implies, true_and, and_true, forall_eq, forall_const, eq_self, mb_e10, r]
      exact mb_i I
theorem i_vc_emit {k : Nat} {u : SX} {v : SY} (I : i_Rel k u v) (hk : k + 5 ≤ 2562) (v1 : Int32) (v2 : Int32) (v3 : Int32) (v4 : Int32) : wpX_emit (fun r u' => wpY_emit (fun r' v' => r' = r ∧ i_Rel (k + 5) u' v') v v1 v2 v3 v4) u v1 v2 v3 v4 := by
  obtain ⟨n, p, nd, c, par, rev, st, pcs, regs, plen, pop, px, py, kd, hm, lk, ht, sl, path, hx, he, flt, rfl, rfl, I⟩ := I
  obtain ⟨H, hn8, hp8, hp, hP, hF, hR, hG⟩ := id I
  have hn : n ≤ 32 := H.2.1
  have hcn : c ≤ n := H.1
  have hnd : nd ≤ 4 := H.2.2.2.1
  have hnd1 : 1 ≤ nd := H.2.2.1
  rcases mb_ix v1 (n := nd) (by omega) with ⟨z1, z2⟩ | ⟨z1, z2, z3, z4⟩ | ⟨d, hd, rfl⟩
  · simp (disch := omega) only [wpX_emit, wpX_domainExists, wpX_isRegister, wpY_emit, nI_clamp, vp_in_nI, nI_1, nI_add, mb_lt_t, mb_lt_f, mb_le_t, mb_le_f, mb_ne, mb_lt0, mb_le0, mb_m1, mb_m1l, mb_m1g, mb_m1n, mb_x2, mb_x4, mb_x32, mb_lt_4, mb_le_4, mb_ge_4, mb_gt_4, mb_le_3, mb_gt_3, mb_le_7, mb_gt_7, mb_lt_32, mb_ge_32, mb_lt_128, mb_ge_128, mb_ge_1, mb_lt_1, mb_ge_1f, mb_lt_1t, not_true, not_false_iff, false_implies, true_implies, true_and, and_true, forall_eq, forall_const, eq_self, mb_e10, z1, z2]
    exact mb_i I
  · simp (disch := omega) only [wpX_emit, wpX_domainExists, wpX_isRegister, wpY_emit, nI_clamp, vp_in_nI, nI_1, nI_add, mb_lt_t, mb_lt_f, mb_le_t, mb_le_f, mb_ne, mb_lt0, mb_le0, mb_m1, mb_m1l, mb_m1g, mb_m1n, mb_x2, mb_x4, mb_x32, mb_lt_4, mb_le_4, mb_ge_4, mb_gt_4, mb_le_3, mb_gt_3, mb_le_7, mb_gt_7, mb_lt_32, mb_ge_32, mb_lt_128, mb_ge_128, mb_ge_1, mb_lt_1, mb_ge_1f, mb_lt_1t, not_true, not_false_iff, false_implies, true_implies, true_and, and_true, forall_eq, forall_const, eq_self, mb_e10, z1, z2, z3, z4]
    exact mb_i I
  · rcases mb_ix8 v2 with ⟨z1, z2⟩ | ⟨z1, z2, z3, z4⟩ | ⟨o, ho, rfl⟩
    · simp (disch := omega) only [wpX_emit, wpX_domainExists, wpX_isRegister, wpY_emit, nI_clamp, vp_in_nI, nI_1, nI_add, mb_lt_t, mb_lt_f, mb_le_t, mb_le_f, mb_ne, mb_lt0, mb_le0, mb_m1, mb_m1l, mb_m1g, mb_m1n, mb_x2, mb_x4, mb_x32, mb_lt_4, mb_le_4, mb_ge_4, mb_gt_4, mb_le_3, mb_gt_3, mb_le_7, mb_gt_7, mb_lt_32, mb_ge_32, mb_lt_128, mb_ge_128, mb_ge_1, mb_lt_1, mb_ge_1f, mb_lt_1t, not_true, not_false_iff, false_implies, true_implies, true_and, and_true, forall_eq, forall_const, eq_self, mb_e10, z1, z2]
      exact mb_i I
    · simp (disch := omega) only [wpX_emit, wpX_domainExists, wpX_isRegister, wpY_emit, nI_clamp, vp_in_nI, nI_1, nI_add, mb_lt_t, mb_lt_f, mb_le_t, mb_le_f, mb_ne, mb_lt0, mb_le0, mb_m1, mb_m1l, mb_m1g, mb_m1n, mb_x2, mb_x4, mb_x32, mb_lt_4, mb_le_4, mb_ge_4, mb_gt_4, mb_le_3, mb_gt_3, mb_le_7, mb_gt_7, mb_lt_32, mb_ge_32, mb_lt_128, mb_ge_128, mb_ge_1, mb_lt_1, mb_ge_1f, mb_lt_1t, not_true, not_false_iff, false_implies, true_implies, true_and, and_true, forall_eq, forall_const, eq_self, mb_e10, z1, z2, z3, z4]
      exact mb_i I
    · rcases mb_ix4 v3 with ⟨z1, z2⟩ | ⟨z1, z2, z3, z4, z5, z6⟩ | ⟨x, hx4, rfl⟩
      · simp (disch := omega) only [wpX_emit, wpX_domainExists, wpX_isRegister, wpY_emit, nI_clamp, vp_in_nI, nI_1, nI_add, mb_lt_t, mb_lt_f, mb_le_t, mb_le_f, mb_ne, mb_lt0, mb_le0, mb_m1, mb_m1l, mb_m1g, mb_m1n, mb_x2, mb_x4, mb_x32, mb_lt_4, mb_le_4, mb_ge_4, mb_gt_4, mb_le_3, mb_gt_3, mb_le_7, mb_gt_7, mb_lt_32, mb_ge_32, mb_lt_128, mb_ge_128, mb_ge_1, mb_lt_1, mb_ge_1f, mb_lt_1t, not_true, not_false_iff, false_implies, true_implies, true_and, and_true, forall_eq, forall_const, eq_self, mb_e10, z1, z2]
        exact mb_i I
      · simp (disch := omega) only [wpX_emit, wpX_domainExists, wpX_isRegister, wpY_emit, nI_clamp, vp_in_nI, nI_1, nI_add, mb_lt_t, mb_lt_f, mb_le_t, mb_le_f, mb_ne, mb_lt0, mb_le0, mb_m1, mb_m1l, mb_m1g, mb_m1n, mb_x2, mb_x4, mb_x32, mb_lt_4, mb_le_4, mb_ge_4, mb_gt_4, mb_le_3, mb_gt_3, mb_le_7, mb_gt_7, mb_lt_32, mb_ge_32, mb_lt_128, mb_ge_128, mb_ge_1, mb_lt_1, mb_ge_1f, mb_lt_1t, not_true, not_false_iff, false_implies, true_implies, true_and, and_true, forall_eq, forall_const, eq_self, mb_e10, z1, z2, z3, z4, z5, z6]
        exact mb_i I
      · rcases mb_ix4 v4 with ⟨z1, z2⟩ | ⟨z1, z2, z3, z4, z5, z6⟩ | ⟨y, hy4, rfl⟩
        · simp (disch := omega) only [wpX_emit, wpX_domainExists, wpX_isRegister, wpY_emit, nI_clamp, vp_in_nI, nI_1, nI_add, mb_lt_t, mb_lt_f, mb_le_t, mb_le_f, mb_ne, mb_lt0, mb_le0, mb_m1, mb_m1l, mb_m1g, mb_m1n, mb_x2, mb_x4, mb_x32, mb_lt_4, mb_le_4, mb_ge_4, mb_gt_4, mb_le_3, mb_gt_3, mb_le_7, mb_gt_7, mb_lt_32, mb_ge_32, mb_lt_128, mb_ge_128, mb_ge_1, mb_lt_1, mb_ge_1f, mb_lt_1t, not_true, not_false_iff, false_implies, true_implies, true_and, and_true, forall_eq, forall_const, eq_self, mb_e10, z1, z2]
          exact mb_i I
        · simp (disch := omega) only [wpX_emit, wpX_domainExists, wpX_isRegister, wpY_emit, nI_clamp, vp_in_nI, nI_1, nI_add, mb_lt_t, mb_lt_f, mb_le_t, mb_le_f, mb_ne, mb_lt0, mb_le0, mb_m1, mb_m1l, mb_m1g, mb_m1n, mb_x2, mb_x4, mb_x32, mb_lt_4, mb_le_4, mb_ge_4, mb_gt_4, mb_le_3, mb_gt_3, mb_le_7, mb_gt_7, mb_lt_32, mb_ge_32, mb_lt_128, mb_ge_128, mb_ge_1, mb_lt_1, mb_ge_1f, mb_lt_1t, not_true, not_false_iff, false_implies, true_implies, true_and, and_true, forall_eq, forall_const, eq_self, mb_e10, z1, z2, z3, z4, z5, z6]
          exact mb_i I
        · obtain ⟨l, q, a1, a2, a3, a4, -⟩ := hG d (by omega)
          by_cases hl : l < p
          · simp (disch := omega) only [wpX_emit, wpX_domainExists, wpX_isRegister, wpY_emit, nI_clamp, vp_in_nI, nI_1, nI_add, mb_lt_t, mb_lt_f, mb_le_t, mb_le_f, mb_ne, mb_lt0, mb_le0, mb_m1, mb_m1l, mb_m1g, mb_m1n, mb_x2, mb_x4, mb_x32, mb_lt_4, mb_le_4, mb_ge_4, mb_gt_4, mb_le_3, mb_gt_3, mb_le_7, mb_gt_7, mb_lt_32, mb_ge_32, mb_lt_128, mb_ge_128, mb_ge_1, mb_lt_1, mb_ge_1f, mb_lt_1t, not_true, not_false_iff, false_implies, true_implies, true_and, and_true, forall_eq, forall_const, eq_self, mb_e10, a3]
            exact mb_i ⟨H, hn8, hp8, hp, hP, mb_F_len hF hd _, hR, mb_G_emit hG (by omega) a3 (by omega) ho hx4 hy4⟩
          · simp (disch := omega) only [wpX_emit, wpX_domainExists, wpX_isRegister, wpY_emit, nI_clamp, vp_in_nI, nI_1, nI_add, mb_lt_t, mb_lt_f, mb_le_t, mb_le_f, mb_ne, mb_lt0, mb_le0, mb_m1, mb_m1l, mb_m1g, mb_m1n, mb_x2, mb_x4, mb_x32, mb_lt_4, mb_le_4, mb_ge_4, mb_gt_4, mb_le_3, mb_gt_3, mb_le_7, mb_gt_7, mb_lt_32, mb_ge_32, mb_lt_128, mb_ge_128, mb_ge_1, mb_lt_1, mb_ge_1f, mb_lt_1t, not_true, not_false_iff, false_implies, true_implies, true_and, and_true, forall_eq, forall_const, eq_self, mb_e10, a3]
            exact mb_i I
end
