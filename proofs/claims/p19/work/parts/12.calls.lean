section
variable {n p nd c : Nat} {par rev st pcs regs plen pop px py kd hm lk ht sl path : Nat → Int32} {x5 x7 x8 x9 x10 : Int32}
/-- one call of the law, on the first object or on the second: one outcome -/
theorem ml_op (I : mb_I n p nd c par pcs regs plen pop px py kd hm lk sl) (x5 x7 x8 x9 x10 : Int32) (h9 : ¬ x9 + 1 = 0) (rev st ht path : Nat → Int32) : ∃ (nd' c' : Nat) (par' rev' st' pcs' regs' plen' pop' px' py' kd' hm' lk' ht' sl' path' : Nat → Int32), mb_I n p nd' c' par' pcs' regs' plen' pop' px' py' kd' hm' lk' sl' ∧ mb_Q x5 x10 nd c par rev regs kd hm lk ht sl nd' c' rev' regs' kd' hm' lk' ht' sl' ∧
    (∀ (post : Int32 → Prop) (L : Nat) (xs : Nat → Int32) (J58 J203 : Int32 → Int32 → Int32 → Int32 → Int32 → (Nat → Int32) → (Nat → Int32) → (Nat → Int32) → (Nat → Int32) → (Nat → Int32) → (Nat → Int32) → (Nat → Int32) → (Nat → Int32) → (Nat → Int32) → (Nat → Int32) → (Nat → Int32) → (Nat → Int32) → (Nat → Int32) → (Nat → Int32) → (Nat → Int32) → Int32 → Int32 → Int32 → Int32 → (Nat → Int32) → (Nat → Int32) → (Nat → Int32) → (Nat → Int32) → (Nat → Int32) → (Nat → Int32) → (Nat → Int32) → (Nat → Int32) → (Nat → Int32) → (Nat → Int32) → (Nat → Int32) → (Nat → Int32) → (Nat → Int32) → (Nat → Int32) → (Nat → Int32) → Prop) (x3 x4 x11 : Int32) (kc ks : Nat) (f0 f1 f2 f3 : Int32) (b1 b2 b3 b4 b5 b6 b7 b8 b9 b10 b11 b12 b13 b14 b15 : Nat → Int32), wL_law_362 post L xs J58 J203 x3 x4 x5 x7 x8 x9 x10 x11 kc ks (nI n) (nI p) (nI nd') (nI c') par' rev' st' pcs' regs' plen' pop' px' py' kd' hm' lk' ht' sl' path' f0 f1 f2 f3 b1 b2 b3 b4 b5 b6 b7 b8 b9 b10 b11 b12 b13 b14 b15 → wL_law_219_2 post L xs J58 J203 x3 x4 x5 x7 x8 x9 x10 x11 kc ks (nI n) (nI p) (nI nd) (nI c) par rev st pcs regs plen pop px py kd hm lk ht sl path f0 f1 f2 f3 b1 b2 b3 b4 b5 b6 b7 b8 b9 b10 b11 b12 b13 b14 b15) ∧
    (∀ (post : Int32 → Prop) (L : Nat) (xs : Nat → Int32) (J58 J203 : Int32 → Int32 → Int32 → Int32 → Int32 → (Nat → Int32) → (Nat → Int32) → (Nat → Int32) → (Nat → Int32) → (Nat → Int32) → (Nat → Int32) → (Nat → Int32) → (Nat → Int32) → (Nat → Int32) → (Nat → Int32) → (Nat → Int32) → (Nat → Int32) → (Nat → Int32) → (Nat → Int32) → (Nat → Int32) → Int32 → Int32 → Int32 → Int32 → (Nat → Int32) → (Nat → Int32) → (Nat → Int32) → (Nat → Int32) → (Nat → Int32) → (Nat → Int32) → (Nat → Int32) → (Nat → Int32) → (Nat → Int32) → (Nat → Int32) → (Nat → Int32) → (Nat → Int32) → (Nat → Int32) → (Nat → Int32) → (Nat → Int32) → Prop) (x3 x4 x11 : Int32) (kc ks : Nat) (f0 f1 f2 f3 : Int32) (b1 b2 b3 b4 b5 b6 b7 b8 b9 b10 b11 b12 b13 b14 b15 : Nat → Int32), wL_law_362 post L xs J58 J203 x3 x4 x5 x7 x8 x9 x10 x11 kc ks f0 f1 f2 f3 b1 b2 b3 b4 b5 b6 b7 b8 b9 b10 b11 b12 b13 b14 b15 (nI n) (nI p) (nI nd') (nI c') par' rev' st' pcs' regs' plen' pop' px' py' kd' hm' lk' ht' sl' path' → wL_law_219 post L xs J58 J203 x3 x4 x5 x7 x8 x9 x10 x11 kc ks f0 f1 f2 f3 b1 b2 b3 b4 b5 b6 b7 b8 b9 b10 b11 b12 b13 b14 b15 (nI n) (nI p) (nI nd) (nI c) par rev st pcs regs plen pop px py kd hm lk ht sl path) := by
  by_cases e0 : x5 = 0
  · obtain ⟨nd', c', par', rev', st', pcs', regs', plen', pop', px', py', kd', hm', lk', ht', sl', path', r, I', hM, hw⟩ := mb_c_newDomain I x10 rev st ht path
    refine ⟨nd', c', par', rev', st', pcs', regs', plen', pop', px', py', kd', hm', lk', ht', sl', path', I', ⟨hM, fun h => absurd h (by rw [e0]; decide)⟩, ?_, ?_⟩
    · intro post L xs J58 J203 x3 x4 x11 kc ks f0 f1 f2 f3 b1 b2 b3 b4 b5 b6 b7 b8 b9 b10 b11 b12 b13 b14 b15 K
      exact br_t e0 (hw _ K)
    · intro post L xs J58 J203 x3 x4 x11 kc ks f0 f1 f2 f3 b1 b2 b3 b4 b5 b6 b7 b8 b9 b10 b11 b12 b13 b14 b15 K
      exact br_t e0 (hw _ K)
  have n0 : ¬ x5 = 0 := e0
  by_cases e1 : x5 = 1
  · obtain ⟨nd', c', par', rev', st', pcs', regs', plen', pop', px', py', kd', hm', lk', ht', sl', path', r, I', hM, hw⟩ := mb_c_newBox I x10 rev st ht path
    refine ⟨nd', c', par', rev', st', pcs', regs', plen', pop', px', py', kd', hm', lk', ht', sl', path', I', ⟨hM, fun h => absurd h (by rw [e1]; decide)⟩, ?_, ?_⟩
    · intro post L xs J58 J203 x3 x4 x11 kc ks f0 f1 f2 f3 b1 b2 b3 b4 b5 b6 b7 b8 b9 b10 b11 b12 b13 b14 b15 K
      exact br_f n0 (br_t e1 (hw _ K))
    · intro post L xs J58 J203 x3 x4 x11 kc ks f0 f1 f2 f3 b1 b2 b3 b4 b5 b6 b7 b8 b9 b10 b11 b12 b13 b14 b15 K
      exact br_f n0 (br_t e1 (hw _ K))
  have n1 : ¬ x5 = 1 := e1
  by_cases e2 : x5 = 2
  · by_cases z9 : x9 = 0
    · obtain ⟨nd', c', par', rev', st', pcs', regs', plen', pop', px', py', kd', hm', lk', ht', sl', path', r, I', hM, hw⟩ := mb_c_give I x10 (x7 &&& 3) (-1) rev st ht path
      refine ⟨nd', c', par', rev', st', pcs', regs', plen', pop', px', py', kd', hm', lk', ht', sl', path', I', ⟨hM, fun h => absurd h (by rw [e2]; decide)⟩, ?_, ?_⟩
      · intro post L xs J58 J203 x3 x4 x11 kc ks f0 f1 f2 f3 b1 b2 b3 b4 b5 b6 b7 b8 b9 b10 b11 b12 b13 b14 b15 K
        exact br_f n0 (br_f n1 (br_t e2 (br_t z9 (hw _ K))))
      · intro post L xs J58 J203 x3 x4 x11 kc ks f0 f1 f2 f3 b1 b2 b3 b4 b5 b6 b7 b8 b9 b10 b11 b12 b13 b14 b15 K
        exact br_f n0 (br_f n1 (br_t e2 (br_t z9 (hw _ K))))
    · obtain ⟨nd', c', par', rev', st', pcs', regs', plen', pop', px', py', kd', hm', lk', ht', sl', path', r, I', hM, hw⟩ := mb_c_give I x10 (x7 &&& 3) ((x8 - x8 / (x9 + 1) * (x9 + 1)) - 1) rev st ht path
      refine ⟨nd', c', par', rev', st', pcs', regs', plen', pop', px', py', kd', hm', lk', ht', sl', path', I', ⟨hM, fun h => absurd h (by rw [e2]; decide)⟩, ?_, ?_⟩
      · intro post L xs J58 J203 x3 x4 x11 kc ks f0 f1 f2 f3 b1 b2 b3 b4 b5 b6 b7 b8 b9 b10 b11 b12 b13 b14 b15 K
        exact br_f n0 (br_f n1 (br_t e2 (br_f z9 ⟨h9, hw _ K⟩)))
      · intro post L xs J58 J203 x3 x4 x11 kc ks f0 f1 f2 f3 b1 b2 b3 b4 b5 b6 b7 b8 b9 b10 b11 b12 b13 b14 b15 K
        exact br_f n0 (br_f n1 (br_t e2 (br_f z9 ⟨h9, hw _ K⟩)))
  have n2 : ¬ x5 = 2 := e2
  by_cases e3 : x5 = 3
  · obtain ⟨nd', c', par', rev', st', pcs', regs', plen', pop', px', py', kd', hm', lk', ht', sl', path', r, I', hM, hw⟩ := mb_c_emit I x10 (x7 &&& 7) (x8 &&& 3) ((x8 >>> ((2 : Int32) &&& 31)) &&& 3) rev st ht path
    refine ⟨nd', c', par', rev', st', pcs', regs', plen', pop', px', py', kd', hm', lk', ht', sl', path', I', ⟨hM, fun h => absurd h (by rw [e3]; decide)⟩, ?_, ?_⟩
    · intro post L xs J58 J203 x3 x4 x11 kc ks f0 f1 f2 f3 b1 b2 b3 b4 b5 b6 b7 b8 b9 b10 b11 b12 b13 b14 b15 K
      exact br_f n0 (br_f n1 (br_f n2 (br_t e3 (hw _ K))))
    · intro post L xs J58 J203 x3 x4 x11 kc ks f0 f1 f2 f3 b1 b2 b3 b4 b5 b6 b7 b8 b9 b10 b11 b12 b13 b14 b15 K
      exact br_f n0 (br_f n1 (br_f n2 (br_t e3 (hw _ K))))
  have n3 : ¬ x5 = 3 := e3
  by_cases e4 : x5 = 4
  · obtain ⟨nd', c', par', rev', st', pcs', regs', plen', pop', px', py', kd', hm', lk', ht', sl', path', r, I', hM, hw⟩ := mb_c_emit I x10 (x7 &&& 7) (x8 &&& 3) ((x8 >>> ((2 : Int32) &&& 31)) &&& 3) rev st ht path
    refine ⟨nd', c', par', rev', st', pcs', regs', plen', pop', px', py', kd', hm', lk', ht', sl', path', I', ⟨hM, fun h => absurd h (by rw [e4]; decide)⟩, ?_, ?_⟩
    · intro post L xs J58 J203 x3 x4 x11 kc ks f0 f1 f2 f3 b1 b2 b3 b4 b5 b6 b7 b8 b9 b10 b11 b12 b13 b14 b15 K
      exact br_f n0 (br_f n1 (br_f n2 (br_f n3 (br_t e4 (hw _ K)))))
    · intro post L xs J58 J203 x3 x4 x11 kc ks f0 f1 f2 f3 b1 b2 b3 b4 b5 b6 b7 b8 b9 b10 b11 b12 b13 b14 b15 K
      exact br_f n0 (br_f n1 (br_f n2 (br_f n3 (br_t e4 (hw _ K)))))
  have n4 : ¬ x5 = 4 := e4
  by_cases e6 : x5 = 6
  · obtain ⟨nd', c', par', rev', st', pcs', regs', plen', pop', px', py', kd', hm', lk', ht', sl', path', r, I', hM, hw⟩ := mb_c_revoke I x10 rev st ht path
    refine ⟨nd', c', par', rev', st', pcs', regs', plen', pop', px', py', kd', hm', lk', ht', sl', path', I', ⟨hM, fun h => absurd h (by rw [e6]; decide)⟩, ?_, ?_⟩
    · intro post L xs J58 J203 x3 x4 x11 kc ks f0 f1 f2 f3 b1 b2 b3 b4 b5 b6 b7 b8 b9 b10 b11 b12 b13 b14 b15 K
      exact br_f n0 (br_f n1 (br_f n2 (br_f n3 (br_f n4 (br_t e6 (hw _ K))))))
    · intro post L xs J58 J203 x3 x4 x11 kc ks f0 f1 f2 f3 b1 b2 b3 b4 b5 b6 b7 b8 b9 b10 b11 b12 b13 b14 b15 K
      exact br_f n0 (br_f n1 (br_f n2 (br_f n3 (br_f n4 (br_t e6 (hw _ K))))))
  have n6 : ¬ x5 = 6 := e6
  obtain ⟨nd', c', par', rev', st', pcs', regs', plen', pop', px', py', kd', hm', lk', ht', sl', path', r, I', hM, hF, hw⟩ := mb_c_run I x10 (x7 &&& 15) rev st ht path
  refine ⟨nd', c', par', rev', st', pcs', regs', plen', pop', px', py', kd', hm', lk', ht', sl', path', I', ⟨hM, fun _ => hF⟩, ?_, ?_⟩
  · intro post L xs J58 J203 x3 x4 x11 kc ks f0 f1 f2 f3 b1 b2 b3 b4 b5 b6 b7 b8 b9 b10 b11 b12 b13 b14 b15 K
    exact br_f n0 (br_f n1 (br_f n2 (br_f n3 (br_f n4 (br_f n6 (hw _ K))))))
  · intro post L xs J58 J203 x3 x4 x11 kc ks f0 f1 f2 f3 b1 b2 b3 b4 b5 b6 b7 b8 b9 b10 b11 b12 b13 b14 b15 K
    exact br_f n0 (br_f n1 (br_f n2 (br_f n3 (br_f n4 (br_f n6 (hw _ K))))))
theorem ml_203 {post : Int32 → Prop} {L : Nat} {xs : Nat → Int32} {J58 : Int32 → Int32 → Int32 → Int32 → Int32 → (Nat → Int32) → (Nat → Int32) → (Nat → Int32) → (Nat → Int32) → (Nat → Int32) → (Nat → Int32) → (Nat → Int32) → (Nat → Int32) → (Nat → Int32) → (Nat → Int32) → (Nat → Int32) → (Nat → Int32) → (Nat → Int32) → (Nat → Int32) → (Nat → Int32) → Int32 → Int32 → Int32 → Int32 → (Nat → Int32) → (Nat → Int32) → (Nat → Int32) → (Nat → Int32) → (Nat → Int32) → (Nat → Int32) → (Nat → Int32) → (Nat → Int32) → (Nat → Int32) → (Nat → Int32) → (Nat → Int32) → (Nat → Int32) → (Nat → Int32) → (Nat → Int32) → (Nat → Int32) → Prop} {x3 : Int32} {kc ks : Nat} (I : mb_I n p nd c par pcs regs plen pop px py kd hm lk sl) (h9 : ¬ x9 + 1 = 0) {t : Nat}
    (K : ∀ (nd' c' : Nat) (par' rev' st' pcs' regs' plen' pop' px' py' kd' hm' lk' ht' sl' path' : Nat → Int32), mb_I n p nd' c' par' pcs' regs' plen' pop' px' py' kd' hm' lk' sl' → J58 (nI (t + 1)) (nI n) (nI p) (nI nd') (nI c') par' rev' st' pcs' regs' plen' pop' px' py' kd' hm' lk' ht' sl' path' (nI n) (nI p) (nI nd') (nI c') par' rev' st' pcs' regs' plen' pop' px' py' kd' hm' lk' ht' sl' path') : ∃ m, wL_law_203 post L xs J58 x3 (nI t) x5 x7 x8 x9 x10 kc ks m 0 (nI n) (nI p) (nI nd) (nI c) par rev st pcs regs plen pop px py kd hm lk ht sl path (nI n) (nI p) (nI nd) (nI c) par rev st pcs regs plen pop px py kd hm lk ht sl path := by
  obtain ⟨nd', c', par', rev', st', pcs', regs', plen', pop', px', py', kd', hm', lk', ht', sl', path', I', Q, o1, o2⟩ := ml_op I x5 x7 x8 x9 x10 h9 rev st ht path
  obtain ⟨H', hn8, hp8, hp, hP', hR', hG'⟩ := id I'
  obtain ⟨H, -, -, -, hP, hR, hG⟩ := id I
  have hc' : c' ≤ 32 := Nat.le_trans H'.1 H'.2.1
  have hnd' : nd' ≤ 4 := H'.2.2.2.1
  have J1 : wL_law_203 post L xs J58 x3 (nI t) x5 x7 x8 x9 x10 kc ks 1 1 (nI n) (nI p) (nI nd') (nI c') par' rev' st' pcs' regs' plen' pop' px' py' kd' hm' lk' ht' sl' path' (nI n) (nI p) (nI nd) (nI c) par rev st pcs regs plen pop px py kd hm lk ht sl path := by
    refine br_f (by decide) (br_f (by decide) ?_)
    refine o2 post L xs J58 _ x3 (nI t) 1 kc ks _ _ _ _ _ _ _ _ _ _ _ _ _ _ _ _ _ _ _ ?_
    exact br_t rfl ⟨5, ml_651 H' hP' hR' (K nd' c' par' rev' st' pcs' regs' plen' pop' px' py' kd' hm' lk' ht' sl' path' I') 5 0 (by omega) (by omega)⟩
  refine ⟨2, br_f (by decide) (br_t rfl ?_)⟩
  refine o1 post L xs J58 _ x3 (nI t) 0 kc ks _ _ _ _ _ _ _ _ _ _ _ _ _ _ _ _ _ _ _ ?_
  exact ml_362a H hP hc' hnd' Q J1
theorem ml_169 {post : Int32 → Prop} {L : Nat} {xs : Nat → Int32} {J58 : Int32 → Int32 → Int32 → Int32 → Int32 → (Nat → Int32) → (Nat → Int32) → (Nat → Int32) → (Nat → Int32) → (Nat → Int32) → (Nat → Int32) → (Nat → Int32) → (Nat → Int32) → (Nat → Int32) → (Nat → Int32) → (Nat → Int32) → (Nat → Int32) → (Nat → Int32) → (Nat → Int32) → (Nat → Int32) → Int32 → Int32 → Int32 → Int32 → (Nat → Int32) → (Nat → Int32) → (Nat → Int32) → (Nat → Int32) → (Nat → Int32) → (Nat → Int32) → (Nat → Int32) → (Nat → Int32) → (Nat → Int32) → (Nat → Int32) → (Nat → Int32) → (Nat → Int32) → (Nat → Int32) → (Nat → Int32) → (Nat → Int32) → Prop} {x3 x4 : Int32} {kc ks : Nat} {f0 f1 f2 f3 : Int32} {b1 b2 b3 b4 b5 b6 b7 b8 b9 b10 b11 b12 b13 b14 b15 : Nat → Int32} {x6 : Int32} (H : mb_H n nd c par kd hm lk sl) (K : ∀ k, k ≤ 32 → ∃ m, wL_law_203 post L xs J58 x3 x4 x5 x7 x8 (nI k) (x6 &&& 3) kc ks m 0 (nI n) (nI p) (nI nd) (nI c) par rev st pcs regs plen pop px py kd hm lk ht sl path f0 f1 f2 f3 b1 b2 b3 b4 b5 b6 b7 b8 b9 b10 b11 b12 b13 b14 b15) :
    ∀ m i k : Nat, k ≤ i → i ≤ 32 → 32 - i < m → wL_law_169 post L xs J58 x3 x4 x5 x6 x7 x8 kc ks (nI n) (nI p) (nI nd) (nI c) par rev st pcs regs plen pop px py kd hm lk ht sl path f0 f1 f2 f3 b1 b2 b3 b4 b5 b6 b7 b8 b9 b10 b11 b12 b13 b14 b15 m (nI k) (nI i) := by
  have hn : n ≤ 32 := H.2.1
  have hcn : c ≤ n := H.1
  intro m
  induction m with
  | zero => intro i k _ _ z; omega
  | succ m ih =>
    intro i k hk hi z
    by_cases e : i = 32
    · subst e
      refine br_t (by decide) (nm_e ?_)
      exact K k hk
    · by_cases hic : i < c
      · have K' := ih (i + 1) (k + 1) (by omega) (by omega) (by omega)
        have kj : ¬ kd i = 0 := by
          obtain ⟨-, -, -, ⟨q, -⟩ | ⟨q, -⟩ | ⟨q, -⟩⟩ := mb_H_ob H hic
          · rw [q]; decide
          · rw [q]; decide
          · rw [q]; decide
        simp (disch := omega) only [wL_law_169, mx_kind_t, mx_kind_f, mx_home_t, mx_link_t, mx_hits_t, mx_par_t, mx_par_f, mx_reg_t, nI_clamp, vp_in_nI, nI_1, nI_add, mb_lt_t, mb_lt_f, mb_le_t, mb_le_f, mb_ne, mb_lt0, mb_le0, mb_m1, mb_m1l, mb_m1g, mb_m1n, mb_x2, mb_x4, mb_x32, mb_lt_4, mb_le_4, mb_ge_4, mb_gt_4, mb_le_3, mb_gt_3, mb_le_7, mb_gt_7, mb_lt_32, mb_ge_32, mb_lt_128, mb_ge_128, mb_ge_1, mb_lt_1, mb_ge_1f, mb_lt_1t, not_true, not_false_iff, false_implies, true_implies, true_and, and_true, forall_eq, forall_const, eq_self, mb_e10, kj]
        exact K'
      · have K' := ih (i + 1) k (by omega) (by omega) (by omega)
        simp (disch := omega) only [wL_law_169, mx_kind_t, mx_kind_f, mx_home_t, mx_link_t, mx_hits_t, mx_par_t, mx_par_f, mx_reg_t, nI_clamp, vp_in_nI, nI_1, nI_add, mb_lt_t, mb_lt_f, mb_le_t, mb_le_f, mb_ne, mb_lt0, mb_le0, mb_m1, mb_m1l, mb_m1g, mb_m1n, mb_x2, mb_x4, mb_x32, mb_lt_4, mb_le_4, mb_ge_4, mb_gt_4, mb_le_3, mb_gt_3, mb_le_7, mb_gt_7, mb_lt_32, mb_ge_32, mb_lt_128, mb_ge_128, mb_ge_1, mb_lt_1, mb_ge_1f, mb_lt_1t, not_true, not_false_iff, false_implies, true_implies, true_and, and_true, forall_eq, forall_const, eq_self, mb_e10]
        exact K'
/-- a cell of the script, or 0 -/
theorem ml_cell (L : Nat) (xs : Nat → Int32) (hL : L ≤ 260) (k : Nat) (hk : k < 2 ^ 31) : ∃ v : Int32, ∀ post : Int32 → Prop, post v → wpL_cell post L xs () (nI k) := by
  by_cases h : L ≤ k
  · exact ⟨0, fun post K => br_t (nI_le h hk) K⟩
  · refine ⟨xs k, fun post K => br_f (nI_ge (by omega) (by omega)) ⟨vp_in_nI (by omega) (by omega), ?_⟩⟩
    rw [nI_clamp hk]
    exact K
end
