section
variable {n p nd c : Nat} {par rev st pcs regs plen pop px py kd hm lk ht sl path : Nat → Int32}
/-- the registers after i rounds of the constructor's loop -/
def mb_rg (i : Nat) : Nat → Int32 := fun j => if j < i then -1 else 0
theorem mb_rg_s (i : Nat) : upd (mb_rg i) i (-1) = mb_rg (i + 1) := by
  funext j
  by_cases e : j = i
  · rw [e, pk_us]; exact (if_pos (by omega)).symm
  · rw [pk_un e]
    by_cases z : j < i
    · exact (if_pos z).trans (if_pos (by omega)).symm
    · exact (if_neg z).trans (if_neg (by omega)).symm
theorem mb_ge_16 {a : Nat} (h : a < 16) : (16 ≤ nI a) = False := eq_false (nI_ge (b := 16) h (by decide))
theorem mx_il {post : St2 → Prop} {mc ms kc ks : Nat} {f0 f1 f2 f3 : Int32} (K : post (f0, f1, f2, f3, par, rev, st, pcs, mb_rg 16, plen, pop, px, py, kd, hm, lk, ht, sl, path)) :
    ∀ m i : Nat, i ≤ 16 → 16 - i < m → wX_init_157 post mc ms kc ks f0 f1 f2 f3 m (nI i) par rev st pcs (mb_rg i) plen pop px py kd hm lk ht sl path := by
  intro m
  induction m with
  | zero => intro i _ z; omega
  | succ m ih =>
    intro i hi z
    by_cases e : i = 16
    · subst e
      exact br_t (by decide) K
    · have K' := ih (i + 1) (by omega) (by omega)
      have a : i < 16 := by omega
      simp (disch := omega) only [wX_init_157, nI_clamp, vp_in_nI, nI_1, nI_add, mb_lt_t, mb_lt_f, mb_le_t, mb_le_f, mb_ne, mb_lt0, mb_le0, mb_m1, mb_m1l, mb_m1g, mb_m1n, mb_x2, mb_x4, mb_x32, mb_lt_4, mb_le_4, mb_ge_4, mb_gt_4, mb_le_3, mb_gt_3, mb_le_7, mb_gt_7, mb_lt_32, mb_ge_32, mb_lt_128, mb_ge_128, mb_ge_1, mb_lt_1, mb_ge_1f, mb_lt_1t, not_true, not_false_iff, false_implies, true_implies, true_and, and_true, forall_eq, forall_const, eq_self, mb_e10, mb_ge_16, mb_rg_s]
      exact K'
def mb_CP (x : Int32) (q : Nat) : Prop := 8 ≤ q ∧ q ≤ 32 ∧ ((¬ 8 ≤ x ∧ q = 8) ∨ (8 ≤ x ∧ ¬ x ≤ 32 ∧ q = 32) ∨ (8 ≤ x ∧ x ≤ 32 ∧ x = nI q))
theorem mb_cp (x : Int32) : ∃ q, mb_CP x q := by
  by_cases h : 8 ≤ x
  · by_cases h2 : x ≤ 32
    · have h0 : ¬ x < 0 := Int32.not_lt.mpr (Int32.le_trans (by decide) h)
      obtain ⟨q, hq, rfl⟩ := nI_of h0
      have a : 8 ≤ q := (nI_leI (a := 8) (by omega) hq).mp h
      have b : q ≤ 32 := (nI_leI (b := 32) hq (by omega)).mp h2
      exact ⟨q, a, b, Or.inr (Or.inr ⟨h, h2, rfl⟩)⟩
    · exact ⟨32, by omega, by omega, Or.inr (Or.inl ⟨h, h2, rfl⟩)⟩
  · exact ⟨8, by omega, by omega, Or.inl ⟨h, rfl⟩⟩
theorem mx_cp {post : Int32 → Prop} {x : Int32} {q : Nat} (h : mb_CP x q) (K : post (nI q)) : wpX_clampSize post () x := by
  rcases h with ⟨-, -, ⟨a, rfl⟩ | ⟨a, b, rfl⟩ | ⟨a, b, rfl⟩⟩
  · exact br_f a K
  · exact br_t a (br_f b K)
  · exact br_t a (br_t b K)
/-- a new object -/
theorem ml_init (k0 k1 : Int32) : ∃ n p : Nat, mb_I n p 1 0 (upd (fun _ => 0) 0 (-1)) (fun _ => 0) (mb_rg 16) (fun _ => 0) (fun _ => 0) (fun _ => 0) (fun _ => 0) (fun _ => 0) (fun _ => 0) (fun _ => 0) (fun _ => 0) ∧
    (∀ post : St2 → Prop, post (nI n, nI p, nI 1, nI 0, (upd (fun _ => 0) 0 (-1)), (fun _ => 0), (fun _ => 0), (fun _ => 0), (mb_rg 16), (fun _ => 0), (fun _ => 0), (fun _ => 0), (fun _ => 0), (fun _ => 0), (fun _ => 0), (fun _ => 0), (fun _ => 0), (fun _ => 0), (fun _ => 0)) → wpX_init post 15 645 (0, 0, 0, 0) k0 k1) := by
  obtain ⟨n, h1⟩ := mb_cp k0
  obtain ⟨p, h2⟩ := mb_cp k1
  refine ⟨n, p, ⟨⟨by omega, h1.2.1, by omega, by omega, fun i hi => absurd hi (by omega), fun i hi => absurd hi (by omega), fun i g _ hg => absurd hg (by omega)⟩, h1.1, h2.1, h2.2.1, ⟨pk_us, fun i a b => absurd b (by omega)⟩, ⟨?_, ?_⟩, ?_⟩, ?_⟩
  · intro d r hd hr
    exact Or.inl (if_pos (by omega))
  · intro d r _ hd hr
    exact if_pos (by omega)
  · intro d hd
    exact ⟨0, 0, by omega, by omega, rfl, rfl, fun k hk => absurd hk (by omega)⟩
  · intro post K
    refine ⟨by decide, by decide, by decide, by decide, by decide, by decide, by decide, by decide, by decide, by decide, by decide, by decide, by decide, by decide, by decide, by decide, by decide, by decide, by decide, by decide, by decide, by decide, by decide, by decide, by decide, by decide, by decide, by decide, by decide, by decide, ?_⟩
    refine mx_cp h1 ?_
    refine mx_cp h2 ?_
    refine nm_e ⟨17, ?_⟩
    exact mx_il K 17 0 (by omega) (by omega)
theorem ml_k1 {k : Nat} (h : k ≤ 200) : ¬ nI k + 1 = 0 := by
  rw [nI_1]; exact nI_ne0 (by omega) (by omega)
/-- the law's loop: from any state within the invariant, both objects alike -/
theorem ml_58 {post : Int32 → Prop} {L : Nat} {xs : Nat → Int32} {kc ks : Nat} (hL : L ≤ 260) (T : Nat) (hT : T ≤ 100) (K : post 1) :
    ∀ (w t nd c : Nat) (par rev st pcs regs plen pop px py kd hm lk ht sl path : Nat → Int32), mb_I n p nd c par pcs regs plen pop px py kd hm lk sl → T - t ≤ w → t ≤ T → ∀ m, w < m → wL_law_58 post L xs (nI T) kc ks m (nI t) (nI n) (nI p) (nI nd) (nI c) par rev st pcs regs plen pop px py kd hm lk ht sl path (nI n) (nI p) (nI nd) (nI c) par rev st pcs regs plen pop px py kd hm lk ht sl path := by
  intro w
  induction w with
  | zero =>
    intro t nd c par rev st pcs regs plen pop px py kd hm lk ht sl path I hw ht' m hm0
    obtain ⟨m, rfl⟩ : ∃ q, m = q + 1 := ⟨m - 1, by omega⟩
    exact br_t (nI_le (by omega) (by omega)) K
  | succ w ih =>
    intro t nd c par rev st pcs regs plen pop px py kd hm lk ht sl path I hw ht' m hm0
    obtain ⟨m, rfl⟩ : ∃ q, m = q + 1 := ⟨m - 1, by omega⟩
    by_cases e : T ≤ t
    · exact br_t (nI_le e (by omega)) K
    · have next : ∀ x5 x6 x7 x8 : Int32, ∃ m', wL_law_169 post L xs (wL_law_58 post L xs (nI T) kc ks m) (nI T) (nI t) x5 x6 x7 x8 kc ks (nI n) (nI p) (nI nd) (nI c) par rev st pcs regs plen pop px py kd hm lk ht sl path (nI n) (nI p) (nI nd) (nI c) par rev st pcs regs plen pop px py kd hm lk ht sl path m' 0 0 := by
        intro x5 x6 x7 x8
        refine ⟨33, ml_169 I.1 (fun k hk => ?_) 33 0 0 (by omega) (by omega) (by omega)⟩
        refine ml_203 I (ml_k1 (by omega)) ?_
        intro nd' c' par' rev' st' pcs' regs' plen' pop' px' py' kd' hm' lk' ht2 sl' path' I'
        exact ih (t + 1) nd' c' par' rev' st' pcs' regs' plen' pop' px' py' kd' hm' lk' ht2 sl' path' I' (by omega) (by omega) m (by omega)
      refine br_f (nI_ge (by omega) (by omega)) ?_
      by_cases h3 : 3 ≤ t
      · obtain ⟨v0, g0⟩ := ml_cell L xs hL (5 + 4 * (t - 3)) (by omega)
        obtain ⟨v1, g1⟩ := ml_cell L xs hL (5 + 4 * (t - 3) + 1) (by omega)
        obtain ⟨v2, g2⟩ := ml_cell L xs hL (5 + 4 * (t - 3) + 2) (by omega)
        obtain ⟨v3, g3⟩ := ml_cell L xs hL (5 + 4 * (t - 3) + 3) (by omega)
        have a0 : (5 : Int32) + 4 * (nI t - 3) = nI (5 + 4 * (t - 3)) := by
          rw [show nI t - 3 = nI (t - 3) from pk_sub (b := 3) h3, show (4 : Int32) * nI (t - 3) = nI (4 * (t - 3)) from pk_mul 4 (t - 3)]
          exact nI_add 5 (4 * (t - 3))
        have a1 : nI (5 + 4 * (t - 3)) + 1 = nI (5 + 4 * (t - 3) + 1) := nI_1 _
        have a2 : nI (5 + 4 * (t - 3)) + 2 = nI (5 + 4 * (t - 3) + 2) := nI_add _ 2
        have a3 : nI (5 + 4 * (t - 3)) + 3 = nI (5 + 4 * (t - 3) + 3) := nI_add _ 3
        refine br_t (nI_le (a := 3) h3 (by omega)) (nm_r a0 ?_)
        rw [a1, a2, a3]
        unfold wpL_nn
        refine g0 _ (nm_e ?_)
        refine g1 _ ?_
        refine g2 _ ?_
        refine g3 _ ?_
        exact next _ _ _ _
      · obtain ⟨v0, g0⟩ := ml_cell L xs hL (2 + t) (by omega)
        have a0 : (2 : Int32) + nI t = nI (2 + t) := nI_add 2 t
        refine br_f (nI_ge (b := 3) (by omega) (by decide)) ?_
        rw [a0]
        unfold wpL_nn
        refine g0 _ ⟨ml_k1 (by omega), nm_e ?_⟩
        exact next _ _ _ _
end
