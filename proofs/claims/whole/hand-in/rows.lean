section
section
theorem pk_us {f : Nat → Int32} {k : Nat} {x : Int32} : upd f k x k = x := if_pos rfl
theorem pk_un {f : Nat → Int32} {k j : Nat} {x : Int32} (h : j ≠ k) : upd f k x j = f j := if_neg h
theorem pk_sub {a b : Nat} (h : b ≤ a) : nI a - nI b = nI (a - b) := by
  obtain ⟨c, rfl⟩ : ∃ c, a = c + b := ⟨a - b, by omega⟩
  rw [← nI_add, Int32.add_sub_cancel, Nat.add_sub_cancel]
theorem pk_m1 (n : Nat) : nI (n + 1) + (-1) = nI n := by
  rw [← nI_1, Int32.add_assoc, show (1 : Int32) + (-1) = 0 from rfl, Int32.add_zero]
theorem pk_mul (a b : Nat) : nI a * nI b = nI (a * b) := (Int32.ofNat_mul a b).symm
theorem pk_ix (x : Int32) {n : Nat} (hn : n < 2 ^ 31) : x < 0 ∨ nI n ≤ x ∨ ∃ j : Nat, j < n ∧ x = nI j := by
  by_cases h : x < 0
  · exact Or.inl h
  · obtain ⟨j, hj, rfl⟩ := nI_of h
    by_cases h2 : j < n
    · exact Or.inr (Or.inr ⟨j, h2, rfl⟩)
    · exact Or.inr (Or.inl (nI_le (by omega) hj))
theorem pk_le {x y : Int32} {A B : Prop} (a b : Nat) (f : a ≤ b → A) (g : b < a → B) (hx : x = nI a := by rfl) (hy : y = nI b := by rfl) (ha : a < 2 ^ 31 := by omega) (hb : b < 2 ^ 31 := by omega) : (x ≤ y → A) ∧ (¬ x ≤ y → B) := by
  subst hx hy
  rw [nI_leI ha hb]
  exact ⟨f, fun z => g (by omega)⟩
theorem pk_lt {x y : Int32} {A B : Prop} (a b : Nat) (f : a < b → A) (g : b ≤ a → B) (hx : x = nI a := by rfl) (hy : y = nI b := by rfl) (ha : a < 2 ^ 31 := by omega) (hb : b < 2 ^ 31 := by omega) : (x < y → A) ∧ (¬ x < y → B) := by
  subst hx hy
  rw [nI_ltI ha hb]
  exact ⟨f, fun z => g (by omega)⟩
theorem pk_eq {x y : Int32} {A B : Prop} (a b : Nat) (f : a = b → A) (g : a ≠ b → B) (hx : x = nI a := by rfl) (hy : y = nI b := by rfl) (ha : a < 2 ^ 31 := by omega) (hb : b < 2 ^ 31 := by omega) : (x = y → A) ∧ (¬ x = y → B) := by
  subst hx hy
  rw [nI_eq ha hb]
  exact ⟨f, g⟩
theorem pk_in {x : Int32} (n N : Nat) (h : n < N) (hx : x = nI n := by rfl) (hN : N < 2 ^ 31 := by omega) : vp_in x N := by
  subst hx
  exact vp_in_nI h hN
theorem pk_cl {x : Int32} (n : Nat) (hx : x = nI n := by rfl) (h : n < 2 ^ 31 := by omega) : x.toNatClampNeg = n := by
  subst hx
  exact nI_clamp h

/-! the pure side: references, objects, the heap's invariant -/
def mb_ref (c : Nat) (r : Int32) : Prop := r = -1 ∨ ∃ j : Nat, j < c ∧ r = nI j
def mb_ob (nd i : Nat) (k h l : Int32) : Prop :=
  (∃ a : Nat, a < nd ∧ h = nI a) ∧ ((k = 1 ∧ l = -1) ∨ (k = 2 ∧ ∃ b : Nat, 1 ≤ b ∧ b < nd ∧ l = nI b) ∨ (k = 3 ∧ ∃ t : Nat, t < i ∧ l = nI t))
def mb_H (n nd c : Nat) (kd hm lk sl : Nat → Int32) : Prop :=
  c ≤ n ∧ n ≤ 32 ∧ 1 ≤ nd ∧ nd ≤ 4 ∧ (∀ i, i < c → mb_ob nd i (kd i) (hm i) (lk i)) ∧ (∀ j, j < c * 2 → mb_ref c (sl j))
def mb_E (c : Nat) (kd hm lk : Nat → Int32) (c' : Nat) (kd' hm' lk' : Nat → Int32) : Prop :=
  c ≤ c' ∧ ∀ i, i < c → kd' i = kd i ∧ hm' i = hm i ∧ lk' i = lk i
def mb_ev (sl : Nat → Int32) : Nat → Int32 := fun i => sl (i * 2)
def mb_od (sl : Nat → Int32) : Nat → Int32 := fun i => sl (i * 2 + 1)
theorem mb_ref_up {c c' : Nat} {r : Int32} (h : mb_ref c r) (hc : c ≤ c') : mb_ref c' r := by
  rcases h with h | ⟨j, hj, e⟩
  · exact Or.inl h
  · exact Or.inr ⟨j, by omega, e⟩
theorem mb_E_rf {c : Nat} {kd hm lk : Nat → Int32} : mb_E c kd hm lk c kd hm lk := ⟨Nat.le_refl _, fun _ _ => ⟨rfl, rfl, rfl⟩⟩
theorem mb_E_tr {c : Nat} {kd hm lk : Nat → Int32} {c' : Nat} {kd' hm' lk' : Nat → Int32} {c2 : Nat} {kd2 hm2 lk2 : Nat → Int32}
    (a : mb_E c kd hm lk c' kd' hm' lk') (b : mb_E c' kd' hm' lk' c2 kd2 hm2 lk2) : mb_E c kd hm lk c2 kd2 hm2 lk2 := by
  refine ⟨Nat.le_trans a.1 b.1, fun i hi => ?_⟩
  obtain ⟨a1, a2, a3⟩ := a.2 i hi
  obtain ⟨b1, b2, b3⟩ := b.2 i (Nat.lt_of_lt_of_le hi a.1)
  exact ⟨b1.trans a1, b2.trans a2, b3.trans a3⟩
theorem mb_mk {n nd c : Nat} {kd hm lk sl : Nat → Int32} (H : mb_H n nd c kd hm lk sl) (hc : c < n) {k h l : Int32} (ho : mb_ob nd c k h l) :
    mb_H n nd (c + 1) (upd kd c k) (upd hm c h) (upd lk c l) (upd (upd sl (c * 2) (-1)) (c * 2 + 1) (-1)) := by
  obtain ⟨h1, h2, h3, h4, h5, h6⟩ := H
  refine ⟨hc, h2, h3, h4, ?_, ?_⟩
  · intro i hi
    by_cases e : i = c
    · rw [e, pk_us, pk_us, pk_us]; exact ho
    · rw [pk_un e, pk_un e, pk_un e]; exact h5 i (by omega)
  · intro j hj
    by_cases e : j = c * 2 + 1
    · rw [e, pk_us]; exact Or.inl rfl
    · rw [pk_un e]
      by_cases e' : j = c * 2
      · rw [e', pk_us]; exact Or.inl rfl
      · rw [pk_un e']; exact mb_ref_up (h6 j (by omega)) (by omega)
theorem mb_mkE {c : Nat} {kd hm lk : Nat → Int32} {k h l : Int32} : mb_E c kd hm lk (c + 1) (upd kd c k) (upd hm c h) (upd lk c l) :=
  ⟨Nat.le_succ _, fun i hi => ⟨pk_un (by omega), pk_un (by omega), pk_un (by omega)⟩⟩
theorem mb_set {n nd c : Nat} {kd hm lk sl : Nat → Int32} (H : mb_H n nd c kd hm lk sl) (j : Nat) {v : Int32} (hv : mb_ref c v) : mb_H n nd c kd hm lk (upd sl j v) := by
  obtain ⟨h1, h2, h3, h4, h5, h6⟩ := H
  refine ⟨h1, h2, h3, h4, h5, fun i hi => ?_⟩
  by_cases e : i = j
  · rw [e, pk_us]; exact hv
  · rw [pk_un e]; exact h6 i hi
theorem mb_nd {n nd c : Nat} {kd hm lk sl : Nat → Int32} (H : mb_H n nd c kd hm lk sl) (hd : nd < 4) : mb_H n (nd + 1) c kd hm lk sl := by
  obtain ⟨h1, h2, h3, h4, h5, h6⟩ := H
  refine ⟨h1, h2, by omega, by omega, fun i hi => ?_, h6⟩
  obtain ⟨⟨a, ha, ea⟩, hk⟩ := h5 i hi
  refine ⟨⟨a, by omega, ea⟩, ?_⟩
  rcases hk with hk | ⟨hk, b, b1, b2, eb⟩ | hk
  · exact Or.inl hk
  · exact Or.inr (Or.inl ⟨hk, b, b1, by omega, eb⟩)
  · exact Or.inr (Or.inr hk)
theorem mb_ev_e {sl : Nat → Int32} {c : Nat} {v : Int32} : mb_ev (upd sl (c * 2) v) = upd (mb_ev sl) c v := by
  funext i
  by_cases e : i = c
  · rw [e, pk_us]; exact pk_us
  · rw [pk_un e]; exact pk_un (by omega)
theorem mb_ev_o {sl : Nat → Int32} {c : Nat} {v : Int32} : mb_ev (upd sl (c * 2 + 1) v) = mb_ev sl := by
  funext i
  exact pk_un (by omega)
theorem mb_od_o {sl : Nat → Int32} {c : Nat} {v : Int32} : mb_od (upd sl (c * 2 + 1) v) = upd (mb_od sl) c v := by
  funext i
  by_cases e : i = c
  · rw [e, pk_us]; exact pk_us
  · rw [pk_un e]; exact pk_un (by omega)
theorem mb_od_e {sl : Nat → Int32} {c : Nat} {v : Int32} : mb_od (upd sl (c * 2) v) = mb_od sl := by
  funext i
  exact pk_un (by omega)
/-- the first index below c at which P holds, or none -/
theorem mb_first (P : Nat → Prop) : ∀ c : Nat, (∃ f, f < c ∧ P f ∧ ∀ j, j < f → ¬ P j) ∨ (∀ j, j < c → ¬ P j) := by
  intro c
  induction c with
  | zero => exact Or.inr (fun j hj => absurd hj (by omega))
  | succ c ih =>
    rcases ih with ⟨f, hf, hp, hm⟩ | h
    · exact Or.inl ⟨f, by omega, hp, hm⟩
    · rcases Classical.em (P c) with hp | hp
      · exact Or.inl ⟨c, by omega, hp, h⟩
      · refine Or.inr (fun j hj => ?_)
        by_cases e : j = c
        · rw [e]; exact hp
        · exact h j (by omega)
/-- the membrane between two domains bears the larger id -/
def mb_mx (a b : Nat) : Nat := if b < a then a else b
theorem mb_mx_lt {a b d : Nat} (ha : a < d) (hb : b < d) : mb_mx a b < d := by unfold mb_mx; split <;> assumption
theorem mb_upd_id {f : Nat → Int32} {k : Nat} {v : Int32} (h : f k = v) : upd f k v = f := by
  funext i
  by_cases e : i = k
  · rw [e, pk_us, h]
  · exact pk_un e
theorem mb_n1 : ∀ {j : Nat}, j < 2 ^ 31 → ¬ nI j = -1 := by
  intro j hj e
  have h := nI_pos hj
  rw [e] at h
  exact h (by decide)
/-! the rest of the state: domains and programs -/
def mb_P (nd : Nat) (par : Nat → Int32) : Prop := par 0 = -1 ∧ ∀ i, 1 ≤ i → i < nd → ∃ j : Nat, j < i ∧ par i = nI j
def mb_F (nd : Nat) (rev st pcs regs plen : Nat → Int32) : Prop :=
  ∀ i, nd ≤ i → i < 4 → rev i = 0 ∧ st i = 0 ∧ pcs i = 0 ∧ plen i = 0 ∧ ∀ r, r < 4 → regs (i * 4 + r) = -1
def mb_R (c : Nat) (regs : Nat → Int32) : Prop := ∀ j, j < 16 → mb_ref c (regs j)
def mb_G (pcs plen pop px py : Nat → Int32) : Prop :=
  ∀ d, d < 4 → ∃ l q : Nat, l ≤ 32 ∧ q ≤ l ∧ plen d = nI l ∧ pcs d = nI q ∧ ∀ k, k < l → ∃ o x y : Nat, o < 8 ∧ x < 4 ∧ y < 4 ∧ pop (d * 32 + k) = nI o ∧ px (d * 32 + k) = nI x ∧ py (d * 32 + k) = nI y
def mb_I (n p nd c : Nat) (par rev st pcs regs plen pop px py kd hm lk sl : Nat → Int32) : Prop :=
  mb_H n nd c kd hm lk sl ∧ 8 ≤ n ∧ 8 ≤ p ∧ p ≤ 32 ∧ mb_P nd par ∧ mb_F nd rev st pcs regs plen ∧ mb_R c regs ∧ mb_G pcs plen pop px py
theorem mb_R_up {c c' : Nat} {regs : Nat → Int32} (h : mb_R c regs) (hc : c ≤ c') : mb_R c' regs := fun j hj => mb_ref_up (h j hj) hc
theorem mb_R_set {c : Nat} {regs : Nat → Int32} (h : mb_R c regs) (i : Nat) {v : Int32} (hv : mb_ref c v) : mb_R c (upd regs i v) := by
  intro j hj
  by_cases e : j = i
  · rw [e, pk_us]; exact hv
  · rw [pk_un e]; exact h j hj
theorem mb_F_reg {nd : Nat} {rev st pcs regs plen : Nat → Int32} (h : mb_F nd rev st pcs regs plen) {d r : Nat} (hd : d < nd) (hr : r < 4) (v : Int32) : mb_F nd rev st pcs (upd regs (d * 4 + r) v) plen := by
  intro i h1 h2
  obtain ⟨a, b, e, f, g⟩ := h i h1 h2
  refine ⟨a, b, e, f, fun r' hr' => ?_⟩
  rw [pk_un (by omega)]; exact g r' hr'
theorem mb_F_rev {nd : Nat} {rev st pcs regs plen : Nat → Int32} (h : mb_F nd rev st pcs regs plen) {m : Nat} (hm : m < nd) (v : Int32) : mb_F nd (upd rev m v) st pcs regs plen := by
  intro i h1 h2
  obtain ⟨a, b⟩ := h i h1 h2
  refine ⟨?_, b⟩
  rw [pk_un (by omega)]; exact a
theorem mb_F_st {nd : Nat} {rev st pcs regs plen : Nat → Int32} (h : mb_F nd rev st pcs regs plen) {m : Nat} (hm : m < nd) (v : Int32) : mb_F nd rev (upd st m v) pcs regs plen := by
  intro i h1 h2
  obtain ⟨a, b, e⟩ := h i h1 h2
  refine ⟨a, ?_, e⟩
  rw [pk_un (by omega)]; exact b
theorem mb_F_pc {nd : Nat} {rev st pcs regs plen : Nat → Int32} (h : mb_F nd rev st pcs regs plen) {m : Nat} (hm : m < nd) (v : Int32) : mb_F nd rev st (upd pcs m v) regs plen := by
  intro i h1 h2
  obtain ⟨a, b, e, f⟩ := h i h1 h2
  refine ⟨a, b, ?_, f⟩
  rw [pk_un (by omega)]; exact e
theorem mb_F_len {nd : Nat} {rev st pcs regs plen : Nat → Int32} (h : mb_F nd rev st pcs regs plen) {m : Nat} (hm : m < nd) (v : Int32) : mb_F nd rev st pcs regs (upd plen m v) := by
  intro i h1 h2
  obtain ⟨a, b, e, f, g⟩ := h i h1 h2
  refine ⟨a, b, e, ?_, g⟩
  rw [pk_un (by omega)]; exact f
theorem mb_F_nd {nd : Nat} {rev st pcs regs plen : Nat → Int32} (h : mb_F nd rev st pcs regs plen) : mb_F (nd + 1) rev st pcs regs plen := fun i h1 h2 => h i (by omega) h2
theorem mb_P_nd {nd : Nat} {par : Nat → Int32} (h : mb_P nd par) (h0 : 1 ≤ nd) {j : Nat} (hj : j < nd) : mb_P (nd + 1) (upd par nd (nI j)) := by
  refine ⟨?_, fun i h1 h2 => ?_⟩
  · rw [pk_un (by omega)]; exact h.1
  · by_cases e : i = nd
    · rw [e, pk_us]; exact ⟨j, hj, rfl⟩
    · rw [pk_un e]; exact h.2 i h1 (by omega)
theorem mb_G_pc {pcs plen pop px py : Nat → Int32} (h : mb_G pcs plen pop px py) {d l q : Nat} (hd : d < 4) (hl : plen d = nI l) (hl2 : l ≤ 32) (hq : q ≤ l) : mb_G (upd pcs d (nI q)) plen pop px py := by
  intro i hi
  obtain ⟨l', q', a, b, e, f, g⟩ := h i hi
  by_cases z : i = d
  · subst z
    have : l' = l := (nI_eq (by omega) (by omega)).mp (e.symm.trans hl)
    subst this
    exact ⟨l', q, a, hq, e, pk_us, g⟩
  · exact ⟨l', q', a, b, e, by rw [pk_un z]; exact f, g⟩
theorem mb_G_emit {pcs plen pop px py : Nat → Int32} (h : mb_G pcs plen pop px py) {d l o x y : Nat} (hd : d < 4) (hl : plen d = nI l) (hl2 : l < 32) (ho : o < 8) (hx : x < 4) (hy : y < 4) :
    mb_G pcs (upd plen d (nI (l + 1))) (upd pop (d * 32 + l) (nI o)) (upd px (d * 32 + l) (nI x)) (upd py (d * 32 + l) (nI y)) := by
  intro i hi
  obtain ⟨l', q', a, b, e, f, g⟩ := h i hi
  by_cases z : i = d
  · subst z
    have : l' = l := (nI_eq (by omega) (by omega)).mp (e.symm.trans hl)
    subst this
    refine ⟨l' + 1, q', by omega, by omega, pk_us, f, fun k hk => ?_⟩
    by_cases zk : k = l'
    · subst zk
      exact ⟨o, x, y, ho, hx, hy, pk_us, pk_us, pk_us⟩
    · rw [pk_un (by omega), pk_un (by omega), pk_un (by omega)]
      exact g k (by omega)
  · refine ⟨l', q', a, b, by rw [pk_un z]; exact e, f, fun k hk => ?_⟩
    rw [pk_un (by omega), pk_un (by omega), pk_un (by omega)]
    exact g k hk
/-! the way of an invocation: X keeps path, Y keeps hx and he -/
def mb_W (nd k : Nat) (g : Nat → Nat) (path hx he : Nat → Int32) : Prop :=
  (∀ i, i ≤ k → g i < nd ∧ path i = nI (g i)) ∧ (∀ i, i < k → hx i = nI (g i) ∧ he i = nI (g (i + 1)))
theorem mb_W_0 {nd d : Nat} {path hx he : Nat → Int32} (hd : d < nd) : mb_W nd 0 (fun _ => d) (upd path 0 (nI d)) hx he := by
  refine ⟨fun i hi => ⟨hd, ?_⟩, fun i hi => absurd hi (by omega)⟩
  have e : i = 0 := by omega
  rw [e, pk_us]
theorem mb_W_s {nd k : Nat} {g : Nat → Nat} {path hx he : Nat → Int32} (h : mb_W nd k g path hx he) {e : Nat} (he' : e < nd) :
    mb_W nd (k + 1) (fun i => if i = k + 1 then e else g i) (upd path (k + 1) (nI e)) (upd hx k (nI (g k))) (upd he k (nI e)) := by
  refine ⟨fun i hi => ?_, fun i hi => ?_⟩
  · by_cases z : i = k + 1
    · subst z
      refine ⟨?_, ?_⟩
      · simp only [if_true]; exact he'
      · rw [pk_us]; simp only [if_true]
    · refine ⟨?_, ?_⟩
      · simp only [if_neg z]; exact (h.1 i (by omega)).1
      · rw [pk_un z]; simp only [if_neg z]; exact (h.1 i (by omega)).2
  · have z1 : ¬ i = k + 1 := by omega
    by_cases z : i = k
    · subst z
      refine ⟨?_, ?_⟩
      · rw [pk_us]; simp only [if_neg z1]
      · rw [pk_us]; simp only [if_true]
    · have z2 : ¬ i + 1 = k + 1 := by omega
      refine ⟨?_, ?_⟩
      · rw [pk_un z]; simp only [if_neg z1]; exact (h.2 i (by omega)).1
      · rw [pk_un z]; simp only [if_neg z2]; exact (h.2 i (by omega)).2
theorem mb_W_dn {nd k : Nat} {g : Nat → Nat} {path hx he : Nat → Int32} (h : mb_W nd (k + 1) g path hx he) : mb_W nd k g path hx he :=
  ⟨fun i hi => h.1 i (by omega), fun i hi => h.2 i (by omega)⟩
/-- an answer on both sides: the same reference, or a fault with its code -/
def mb_A (c : Nat) (rX rY flt : Int32) : Prop := (flt = 0 ∧ rY = rX ∧ mb_ref c rX) ∨ (∃ e : Nat, 1 ≤ e ∧ e ≤ 3 ∧ flt = nI e ∧ rX = -1 - nI e)
/-- rev keeps the cells of domains that don't exist yet -/
def mb_V (nd : Nat) (rev rev' : Nat → Int32) : Prop := ∀ i, nd ≤ i → rev' i = rev i
theorem mb_F_V {nd : Nat} {rev rev' st pcs regs plen : Nat → Int32} (h : mb_F nd rev st pcs regs plen) (v : mb_V nd rev rev') : mb_F nd rev' st pcs regs plen := by
  intro i h1 h2
  obtain ⟨a, b⟩ := h i h1 h2
  exact ⟨(v i h1).trans a, b⟩
/-- a forwarder's target, and what any object is -/
theorem mb_H_ob {n nd c : Nat} {kd hm lk sl : Nat → Int32} (H : mb_H n nd c kd hm lk sl) {i : Nat} (hi : i < c) : mb_ob nd i (kd i) (hm i) (lk i) := H.2.2.2.2.1 i hi
theorem mb_fw {nd i : Nat} {k h l : Int32} (o : mb_ob nd i k h l) (e : k = 3) : ∃ t : Nat, t < i ∧ l = nI t := by
  rcases o.2 with ⟨q, -⟩ | ⟨q, -⟩ | ⟨-, t, ht⟩
  · rw [e] at q; exact absurd q (by decide)
  · rw [e] at q; exact absurd q (by decide)
  · exact ⟨t, ht⟩
end
end
section
section
theorem mb_lt_t {a b : Nat} (h : a < b) (hb : b < 2 ^ 31) : (nI a < nI b) = True := eq_true (nI_lt h hb)
theorem mb_lt_f {a b : Nat} (h : b ≤ a) (hb : a < 2 ^ 31) : (nI a < nI b) = False := eq_false (nI_nlt h hb)
theorem mb_le_t {a b : Nat} (h : a ≤ b) (hb : b < 2 ^ 31) : (nI a ≤ nI b) = True := eq_true (nI_le h hb)
theorem mb_le_f {a b : Nat} (h : b < a) (hb : a < 2 ^ 31) : (nI a ≤ nI b) = False := eq_false (nI_ge h hb)
theorem mb_ne {a b : Nat} (h : a ≠ b) (ha : a < 2 ^ 31) (hb : b < 2 ^ 31) : (nI a = nI b) = False := eq_false (fun e => h ((nI_eq ha hb).mp e))
theorem mb_lt0 {a : Nat} (h : a < 2 ^ 31) : (nI a < 0) = False := eq_false (nI_pos h)
theorem mb_le0 {a : Nat} (h : a < 2 ^ 31) : (0 ≤ nI a) = True := eq_true (nI_pos' h)
theorem mb_m1 {a : Nat} (h : a < 2 ^ 31) : (nI a = -1) = False := eq_false (mb_n1 h)
theorem mb_m1l {a : Nat} (h : a < 2 ^ 31) : (-1 ≤ nI a) = True := eq_true (Int32.le_trans (by decide) (nI_pos' h))
theorem mb_m1g {a : Nat} (h : a < 2 ^ 31) : (nI a < -1) = False := eq_false (fun z => nI_pos h (Int32.lt_trans z (by decide)))
theorem mb_m1n {a : Nat} (h : a < 2 ^ 31) : (nI a = -2) = False := eq_false (fun e => nI_pos h (by rw [e]; decide))
theorem mb_x2 (a : Nat) : nI a * 2 = nI (a * 2) := pk_mul a 2
theorem mb_x4 (a : Nat) : nI a * 4 = nI (a * 4) := pk_mul a 4
theorem mb_x32 (a : Nat) : nI a * 32 = nI (a * 32) := pk_mul a 32
theorem mb_lt_4 {a : Nat} (h : a < 4) : (nI a < 4) = True := eq_true (nI_lt (b := 4) h (by decide))
theorem mb_le_4 {a : Nat} (h : a < 4) : (4 ≤ nI a) = False := eq_false (nI_ge (b := 4) h (by decide))
theorem mb_ge_4 {a : Nat} (h : 4 ≤ a) (ha : a < 2 ^ 31) : (4 ≤ nI a) = True := eq_true (nI_le (a := 4) h ha)
theorem mb_gt_4 {a : Nat} (h : 4 ≤ a) (ha : a < 2 ^ 31) : (nI a < 4) = False := eq_false (nI_nlt (b := 4) h ha)
theorem mb_le_3 {a : Nat} (h : a < 4) : (nI a ≤ 3) = True := eq_true (nI_le (b := 3) (by omega) (by decide))
theorem mb_gt_3 {a : Nat} (h : a < 4) : (3 < nI a) = False := eq_false (nI_nlt (a := 3) (by omega) (by decide))
theorem mb_le_7 {a : Nat} (h : a < 8) : (nI a ≤ 7) = True := eq_true (nI_le (b := 7) (by omega) (by decide))
theorem mb_gt_7 {a : Nat} (h : a < 8) : (7 < nI a) = False := eq_false (nI_nlt (a := 7) (by omega) (by decide))
theorem mb_lt_32 {a : Nat} (h : a < 32) : (nI a < 32) = True := eq_true (nI_lt (b := 32) h (by decide))
theorem mb_ge_32 {a : Nat} (h : a < 32) : (32 ≤ nI a) = False := eq_false (nI_ge (b := 32) h (by decide))
theorem mb_lt_128 {a : Nat} (h : a < 128) : (nI a < 128) = True := eq_true (nI_lt (b := 128) h (by decide))
theorem mb_ge_128 {a : Nat} (h : a < 128) : (128 ≤ nI a) = False := eq_false (nI_ge (b := 128) h (by decide))
theorem mb_ge_1 {a : Nat} (h : 1 ≤ a) (ha : a < 2 ^ 31) : (1 ≤ nI a) = True := eq_true (nI_le (a := 1) h ha)
theorem mb_lt_1 {a : Nat} (h : 1 ≤ a) (ha : a < 2 ^ 31) : (nI a < 1) = False := eq_false (nI_nlt (b := 1) h ha)
theorem mb_ge_1f {a : Nat} (h : a < 1) : (1 ≤ nI a) = False := eq_false (nI_ge (b := 1) h (by decide))
theorem mb_lt_1t {a : Nat} (h : a < 1) : (nI a < 1) = True := eq_true (nI_lt (b := 1) h (by decide))
/-- an index: below 0, beyond n, or within -/
theorem mb_ix (x : Int32) {n : Nat} (hn : n < 2 ^ 31) : (x < 0 ∧ ¬ 0 ≤ x) ∨ (¬ x < 0 ∧ 0 ≤ x ∧ nI n ≤ x ∧ ¬ x < nI n) ∨ ∃ j : Nat, j < n ∧ x = nI j := by
  rcases pk_ix x hn with h | h | h
  · exact Or.inl ⟨h, Int32.not_le.mpr h⟩
  · have h0 : 0 ≤ x := Int32.le_trans (nI_pos' hn) h
    exact Or.inr (Or.inl ⟨Int32.not_lt.mpr h0, h0, h, Int32.not_lt.mpr h⟩)
  · exact Or.inr (Or.inr h)
theorem mb_e01 : ((0 : Int32) = 1) = False := eq_false (by decide)
theorem mb_e02 : ((0 : Int32) = 2) = False := eq_false (by decide)
theorem mb_e03 : ((0 : Int32) = 3) = False := eq_false (by decide)
theorem mb_e04 : ((0 : Int32) = 4) = False := eq_false (by decide)
theorem mb_e05 : ((0 : Int32) = 5) = False := eq_false (by decide)
theorem mb_e06 : ((0 : Int32) = 6) = False := eq_false (by decide)
theorem mb_e07 : ((0 : Int32) = 7) = False := eq_false (by decide)
theorem mb_l00 : ((0 : Int32) < 0) = False := eq_false (by decide)
theorem mb_l02 : ((0 : Int32) < 2) = True := eq_true (by decide)
theorem mb_g50 : ((5 : Int32) < 0) = False := eq_false (by decide)
theorem mb_g60 : ((6 : Int32) < 0) = False := eq_false (by decide)
theorem mb_e10 : ((1 : Int32) = 0) = False := eq_false (by decide)
theorem mb_e12 : ((1 : Int32) = 2) = False := eq_false (by decide)
theorem mb_e13 : ((1 : Int32) = 3) = False := eq_false (by decide)
theorem mb_e14 : ((1 : Int32) = 4) = False := eq_false (by decide)
theorem mb_e15 : ((1 : Int32) = 5) = False := eq_false (by decide)
theorem mb_e16 : ((1 : Int32) = 6) = False := eq_false (by decide)
theorem mb_e17 : ((1 : Int32) = 7) = False := eq_false (by decide)
theorem mb_l10 : ((1 : Int32) < 0) = False := eq_false (by decide)
theorem mb_l12 : ((1 : Int32) < 2) = True := eq_true (by decide)
theorem mb_g51 : ((5 : Int32) < 1) = False := eq_false (by decide)
theorem mb_g61 : ((6 : Int32) < 1) = False := eq_false (by decide)
theorem mb_e20 : ((2 : Int32) = 0) = False := eq_false (by decide)
theorem mb_e21 : ((2 : Int32) = 1) = False := eq_false (by decide)
theorem mb_e23 : ((2 : Int32) = 3) = False := eq_false (by decide)
theorem mb_e24 : ((2 : Int32) = 4) = False := eq_false (by decide)
theorem mb_e25 : ((2 : Int32) = 5) = False := eq_false (by decide)
theorem mb_e26 : ((2 : Int32) = 6) = False := eq_false (by decide)
theorem mb_e27 : ((2 : Int32) = 7) = False := eq_false (by decide)
theorem mb_l20 : ((2 : Int32) < 0) = False := eq_false (by decide)
theorem mb_l22 : ((2 : Int32) < 2) = False := eq_false (by decide)
theorem mb_g52 : ((5 : Int32) < 2) = False := eq_false (by decide)
theorem mb_g62 : ((6 : Int32) < 2) = False := eq_false (by decide)
theorem mb_e30 : ((3 : Int32) = 0) = False := eq_false (by decide)
theorem mb_e31 : ((3 : Int32) = 1) = False := eq_false (by decide)
theorem mb_e32 : ((3 : Int32) = 2) = False := eq_false (by decide)
theorem mb_e34 : ((3 : Int32) = 4) = False := eq_false (by decide)
theorem mb_e35 : ((3 : Int32) = 5) = False := eq_false (by decide)
theorem mb_e36 : ((3 : Int32) = 6) = False := eq_false (by decide)
theorem mb_e37 : ((3 : Int32) = 7) = False := eq_false (by decide)
theorem mb_l30 : ((3 : Int32) < 0) = False := eq_false (by decide)
theorem mb_l32 : ((3 : Int32) < 2) = False := eq_false (by decide)
theorem mb_g53 : ((5 : Int32) < 3) = False := eq_false (by decide)
theorem mb_g63 : ((6 : Int32) < 3) = False := eq_false (by decide)
theorem mb_e40 : ((4 : Int32) = 0) = False := eq_false (by decide)
theorem mb_e41 : ((4 : Int32) = 1) = False := eq_false (by decide)
theorem mb_e42 : ((4 : Int32) = 2) = False := eq_false (by decide)
theorem mb_e43 : ((4 : Int32) = 3) = False := eq_false (by decide)
theorem mb_e45 : ((4 : Int32) = 5) = False := eq_false (by decide)
theorem mb_e46 : ((4 : Int32) = 6) = False := eq_false (by decide)
theorem mb_e47 : ((4 : Int32) = 7) = False := eq_false (by decide)
theorem mb_l40 : ((4 : Int32) < 0) = False := eq_false (by decide)
theorem mb_l42 : ((4 : Int32) < 2) = False := eq_false (by decide)
theorem mb_g54 : ((5 : Int32) < 4) = False := eq_false (by decide)
theorem mb_g64 : ((6 : Int32) < 4) = False := eq_false (by decide)
theorem mb_e50 : ((5 : Int32) = 0) = False := eq_false (by decide)
theorem mb_e51 : ((5 : Int32) = 1) = False := eq_false (by decide)
theorem mb_e52 : ((5 : Int32) = 2) = False := eq_false (by decide)
theorem mb_e53 : ((5 : Int32) = 3) = False := eq_false (by decide)
theorem mb_e54 : ((5 : Int32) = 4) = False := eq_false (by decide)
theorem mb_e56 : ((5 : Int32) = 6) = False := eq_false (by decide)
theorem mb_e57 : ((5 : Int32) = 7) = False := eq_false (by decide)
theorem mb_l50 : ((5 : Int32) < 0) = False := eq_false (by decide)
theorem mb_l52 : ((5 : Int32) < 2) = False := eq_false (by decide)
theorem mb_g55 : ((5 : Int32) < 5) = False := eq_false (by decide)
theorem mb_g65 : ((6 : Int32) < 5) = False := eq_false (by decide)
theorem mb_e60 : ((6 : Int32) = 0) = False := eq_false (by decide)
theorem mb_e61 : ((6 : Int32) = 1) = False := eq_false (by decide)
theorem mb_e62 : ((6 : Int32) = 2) = False := eq_false (by decide)
theorem mb_e63 : ((6 : Int32) = 3) = False := eq_false (by decide)
theorem mb_e64 : ((6 : Int32) = 4) = False := eq_false (by decide)
theorem mb_e65 : ((6 : Int32) = 5) = False := eq_false (by decide)
theorem mb_e67 : ((6 : Int32) = 7) = False := eq_false (by decide)
theorem mb_l60 : ((6 : Int32) < 0) = False := eq_false (by decide)
theorem mb_l62 : ((6 : Int32) < 2) = False := eq_false (by decide)
theorem mb_g56 : ((5 : Int32) < 6) = True := eq_true (by decide)
theorem mb_g66 : ((6 : Int32) < 6) = False := eq_false (by decide)
theorem mb_e70 : ((7 : Int32) = 0) = False := eq_false (by decide)
theorem mb_e71 : ((7 : Int32) = 1) = False := eq_false (by decide)
theorem mb_e72 : ((7 : Int32) = 2) = False := eq_false (by decide)
theorem mb_e73 : ((7 : Int32) = 3) = False := eq_false (by decide)
theorem mb_e74 : ((7 : Int32) = 4) = False := eq_false (by decide)
theorem mb_e75 : ((7 : Int32) = 5) = False := eq_false (by decide)
theorem mb_e76 : ((7 : Int32) = 6) = False := eq_false (by decide)
theorem mb_l70 : ((7 : Int32) < 0) = False := eq_false (by decide)
theorem mb_l72 : ((7 : Int32) < 2) = False := eq_false (by decide)
theorem mb_g57 : ((5 : Int32) < 7) = True := eq_true (by decide)
theorem mb_g67 : ((6 : Int32) < 7) = True := eq_true (by decide)
end
end
section
section
variable {n p nd c : Nat} {par rev st pcs regs plen pop px py kd hm lk ht sl path hx he : Nat → Int32} {flt : Int32}
theorem mx_mk {post : Int32 → SX → Prop} {k h l : Int32} (hc : c < n) (hn : n ≤ 32) (K : post (nI c) (nI n, nI p, nI nd, nI (c + 1), par, rev, st, pcs, regs, plen, pop, px, py, (upd kd c k), (upd hm c h), (upd lk c l), (upd ht c 0), (upd (upd sl (c * 2) (-1)) (c * 2 + 1) (-1)), path)) : wpX_makeObject post (nI n, nI p, nI nd, nI c, par, rev, st, pcs, regs, plen, pop, px, py, kd, hm, lk, ht, sl, path) k h l := by
  simp (disch := omega) only [wpX_makeObject, nI_clamp, vp_in_nI, nI_1, nI_add, mb_lt_t, mb_lt_f, mb_le_t, mb_le_f, mb_ne, mb_lt0, mb_le0, mb_m1, mb_m1l, mb_m1g, mb_m1n, mb_x2, mb_x4, mb_x32, mb_lt_4, mb_le_4, mb_ge_4, mb_gt_4, mb_le_3, mb_gt_3, mb_le_7, mb_gt_7, mb_lt_32, mb_ge_32, mb_lt_128, mb_ge_128, mb_ge_1, mb_lt_1, mb_ge_1f, mb_lt_1t, not_true, not_false_iff, false_implies, true_implies, true_and, and_true, forall_eq, forall_const, eq_self, mb_e10]
  exact K
theorem mx_full {post : Int32 → SX → Prop} {k h l : Int32} (hc : n ≤ c) (hn : c ≤ 32) (K : post (-4) (nI n, nI p, nI nd, nI c, par, rev, st, pcs, regs, plen, pop, px, py, kd, hm, lk, ht, sl, path)) : wpX_makeObject post (nI n, nI p, nI nd, nI c, par, rev, st, pcs, regs, plen, pop, px, py, kd, hm, lk, ht, sl, path) k h l := by
  simp (disch := omega) only [wpX_makeObject, nI_clamp, vp_in_nI, nI_1, nI_add, mb_lt_t, mb_lt_f, mb_le_t, mb_le_f, mb_ne, mb_lt0, mb_le0, mb_m1, mb_m1l, mb_m1g, mb_m1n, mb_x2, mb_x4, mb_x32, mb_lt_4, mb_le_4, mb_ge_4, mb_gt_4, mb_le_3, mb_gt_3, mb_le_7, mb_gt_7, mb_lt_32, mb_ge_32, mb_lt_128, mb_ge_128, mb_ge_1, mb_lt_1, mb_ge_1f, mb_lt_1t, not_true, not_false_iff, false_implies, true_implies, true_and, and_true, forall_eq, forall_const, eq_self, mb_e10]
  exact K
theorem my_mk {post : Int32 → SY → Prop} {k h l : Int32} (hc : c < 32) (K : post (nI c) (nI n, nI p, nI nd, nI (c + 1), flt, par, rev, regs, pop, px, py, plen, pcs, st, (upd kd c k), (upd hm c h), (upd lk c l), (mb_ev (upd (upd sl (c * 2) (-1)) (c * 2 + 1) (-1))), (mb_od (upd (upd sl (c * 2) (-1)) (c * 2 + 1) (-1))), (upd ht c 0), hx, he)) : wpY_make post (nI n, nI p, nI nd, nI c, flt, par, rev, regs, pop, px, py, plen, pcs, st, kd, hm, lk, mb_ev sl, mb_od sl, ht, hx, he) k h l := by
  rw [mb_ev_o, mb_ev_e, mb_od_o, mb_od_e] at K
  simp (disch := omega) only [wpY_make, nI_clamp, vp_in_nI, nI_1, nI_add, mb_lt_t, mb_lt_f, mb_le_t, mb_le_f, mb_ne, mb_lt0, mb_le0, mb_m1, mb_m1l, mb_m1g, mb_m1n, mb_x2, mb_x4, mb_x32, mb_lt_4, mb_le_4, mb_ge_4, mb_gt_4, mb_le_3, mb_gt_3, mb_le_7, mb_gt_7, mb_lt_32, mb_ge_32, mb_lt_128, mb_ge_128, mb_ge_1, mb_lt_1, mb_ge_1f, mb_lt_1t, not_true, not_false_iff, false_implies, true_implies, true_and, and_true, forall_eq, forall_const, eq_self, mb_e10]
  exact K
theorem mx_hit {post : Int32 → Prop} {t b : Int32} {f : Nat} (hf : f < c) (hc : c ≤ 32) (h1 : kd f = 3) (h2 : hm f = b) (h3 : lk f = t) (hn : ∀ j, j < f → ¬ (kd j = 3 ∧ hm j = b ∧ lk j = t)) (K : post (nI f)) : ∀ m i : Nat, i ≤ f → f - i < m → wX_findForwarder_2 post t b (nI n) (nI p) (nI nd) (nI c) par rev st pcs regs plen pop px py kd hm lk ht sl path m (nI i) := by
  intro m
  induction m with
  | zero => intro i _ z; omega
  | succ m ih =>
    intro i hi z
    by_cases e : i = f
    · subst e
      simp (disch := omega) only [wX_findForwarder_2, nI_clamp, vp_in_nI, nI_1, nI_add, mb_lt_t, mb_lt_f, mb_le_t, mb_le_f, mb_ne, mb_lt0, mb_le0, mb_m1, mb_m1l, mb_m1g, mb_m1n, mb_x2, mb_x4, mb_x32, mb_lt_4, mb_le_4, mb_ge_4, mb_gt_4, mb_le_3, mb_gt_3, mb_le_7, mb_gt_7, mb_lt_32, mb_ge_32, mb_lt_128, mb_ge_128, mb_ge_1, mb_lt_1, mb_ge_1f, mb_lt_1t, not_true, not_false_iff, false_implies, true_implies, true_and, and_true, forall_eq, forall_const, eq_self, mb_e10, h1, h2, h3]
      exact K
    · have K' := ih (i + 1) (by omega) (by omega)
      have hno := hn i (by omega)
      by_cases k1 : kd i = 3
      · by_cases k2 : hm i = b
        · have k3 : ¬ lk i = t := fun z => hno ⟨k1, k2, z⟩
          simp (disch := omega) only [wX_findForwarder_2, nI_clamp, vp_in_nI, nI_1, nI_add, mb_lt_t, mb_lt_f, mb_le_t, mb_le_f, mb_ne, mb_lt0, mb_le0, mb_m1, mb_m1l, mb_m1g, mb_m1n, mb_x2, mb_x4, mb_x32, mb_lt_4, mb_le_4, mb_ge_4, mb_gt_4, mb_le_3, mb_gt_3, mb_le_7, mb_gt_7, mb_lt_32, mb_ge_32, mb_lt_128, mb_ge_128, mb_ge_1, mb_lt_1, mb_ge_1f, mb_lt_1t, not_true, not_false_iff, false_implies, true_implies, true_and, and_true, forall_eq, forall_const, eq_self, mb_e10, k1, k2, k3]
          exact K'
        · simp (disch := omega) only [wX_findForwarder_2, nI_clamp, vp_in_nI, nI_1, nI_add, mb_lt_t, mb_lt_f, mb_le_t, mb_le_f, mb_ne, mb_lt0, mb_le0, mb_m1, mb_m1l, mb_m1g, mb_m1n, mb_x2, mb_x4, mb_x32, mb_lt_4, mb_le_4, mb_ge_4, mb_gt_4, mb_le_3, mb_gt_3, mb_le_7, mb_gt_7, mb_lt_32, mb_ge_32, mb_lt_128, mb_ge_128, mb_ge_1, mb_lt_1, mb_ge_1f, mb_lt_1t, not_true, not_false_iff, false_implies, true_implies, true_and, and_true, forall_eq, forall_const, eq_self, mb_e10, k1, k2]
          exact K'
      · simp (disch := omega) only [wX_findForwarder_2, nI_clamp, vp_in_nI, nI_1, nI_add, mb_lt_t, mb_lt_f, mb_le_t, mb_le_f, mb_ne, mb_lt0, mb_le0, mb_m1, mb_m1l, mb_m1g, mb_m1n, mb_x2, mb_x4, mb_x32, mb_lt_4, mb_le_4, mb_ge_4, mb_gt_4, mb_le_3, mb_gt_3, mb_le_7, mb_gt_7, mb_lt_32, mb_ge_32, mb_lt_128, mb_ge_128, mb_ge_1, mb_lt_1, mb_ge_1f, mb_lt_1t, not_true, not_false_iff, false_implies, true_implies, true_and, and_true, forall_eq, forall_const, eq_self, mb_e10, k1]
        exact K'
theorem mx_miss {post : Int32 → Prop} {t b : Int32} (hc : c ≤ 32) (hn : ∀ j, j < c → ¬ (kd j = 3 ∧ hm j = b ∧ lk j = t)) (K : post (-1)) : ∀ m i : Nat, i ≤ c → c - i < m → wX_findForwarder_2 post t b (nI n) (nI p) (nI nd) (nI c) par rev st pcs regs plen pop px py kd hm lk ht sl path m (nI i) := by
  intro m
  induction m with
  | zero => intro i _ z; omega
  | succ m ih =>
    intro i hi z
    by_cases e : i = c
    · subst e
      simp (disch := omega) only [wX_findForwarder_2, nI_clamp, vp_in_nI, nI_1, nI_add, mb_lt_t, mb_lt_f, mb_le_t, mb_le_f, mb_ne, mb_lt0, mb_le0, mb_m1, mb_m1l, mb_m1g, mb_m1n, mb_x2, mb_x4, mb_x32, mb_lt_4, mb_le_4, mb_ge_4, mb_gt_4, mb_le_3, mb_gt_3, mb_le_7, mb_gt_7, mb_lt_32, mb_ge_32, mb_lt_128, mb_ge_128, mb_ge_1, mb_lt_1, mb_ge_1f, mb_lt_1t, not_true, not_false_iff, false_implies, true_implies, true_and, and_true, forall_eq, forall_const, eq_self, mb_e10]
      exact K
    · have K' := ih (i + 1) (by omega) (by omega)
      have hno := hn i (by omega)
      by_cases k1 : kd i = 3
      · by_cases k2 : hm i = b
        · have k3 : ¬ lk i = t := fun z => hno ⟨k1, k2, z⟩
          simp (disch := omega) only [wX_findForwarder_2, nI_clamp, vp_in_nI, nI_1, nI_add, mb_lt_t, mb_lt_f, mb_le_t, mb_le_f, mb_ne, mb_lt0, mb_le0, mb_m1, mb_m1l, mb_m1g, mb_m1n, mb_x2, mb_x4, mb_x32, mb_lt_4, mb_le_4, mb_ge_4, mb_gt_4, mb_le_3, mb_gt_3, mb_le_7, mb_gt_7, mb_lt_32, mb_ge_32, mb_lt_128, mb_ge_128, mb_ge_1, mb_lt_1, mb_ge_1f, mb_lt_1t, not_true, not_false_iff, false_implies, true_implies, true_and, and_true, forall_eq, forall_const, eq_self, mb_e10, k1, k2, k3]
          exact K'
        · simp (disch := omega) only [wX_findForwarder_2, nI_clamp, vp_in_nI, nI_1, nI_add, mb_lt_t, mb_lt_f, mb_le_t, mb_le_f, mb_ne, mb_lt0, mb_le0, mb_m1, mb_m1l, mb_m1g, mb_m1n, mb_x2, mb_x4, mb_x32, mb_lt_4, mb_le_4, mb_ge_4, mb_gt_4, mb_le_3, mb_gt_3, mb_le_7, mb_gt_7, mb_lt_32, mb_ge_32, mb_lt_128, mb_ge_128, mb_ge_1, mb_lt_1, mb_ge_1f, mb_lt_1t, not_true, not_false_iff, false_implies, true_implies, true_and, and_true, forall_eq, forall_const, eq_self, mb_e10, k1, k2]
          exact K'
      · simp (disch := omega) only [wX_findForwarder_2, nI_clamp, vp_in_nI, nI_1, nI_add, mb_lt_t, mb_lt_f, mb_le_t, mb_le_f, mb_ne, mb_lt0, mb_le0, mb_m1, mb_m1l, mb_m1g, mb_m1n, mb_x2, mb_x4, mb_x32, mb_lt_4, mb_le_4, mb_ge_4, mb_gt_4, mb_le_3, mb_gt_3, mb_le_7, mb_gt_7, mb_lt_32, mb_ge_32, mb_lt_128, mb_ge_128, mb_ge_1, mb_lt_1, mb_ge_1f, mb_lt_1t, not_true, not_false_iff, false_implies, true_implies, true_and, and_true, forall_eq, forall_const, eq_self, mb_e10, k1]
        exact K'
theorem my_hit {post : Int32 → SY → Prop} {t b : Int32} {f : Nat} (hf : f < c) (hc : c ≤ 32) (h1 : kd f = 3) (h2 : hm f = b) (h3 : lk f = t) (hn : ∀ j, j < f → ¬ (kd j = 3 ∧ hm j = b ∧ lk j = t)) (K : post (nI f) (nI n, nI p, nI nd, nI c, flt, par, rev, regs, pop, px, py, plen, pcs, st, kd, hm, lk, mb_ev sl, mb_od sl, ht, hx, he)) : ∀ m i : Nat, i ≤ f → f - i < m → wY_carry_81 post t b (nI n) (nI p) (nI nd) (nI c) flt par rev regs pop px py plen pcs st kd hm lk (mb_ev sl) (mb_od sl) ht hx he m (nI i) := by
  intro m
  induction m with
  | zero => intro i _ z; omega
  | succ m ih =>
    intro i hi z
    by_cases e : i = f
    · subst e
      simp (disch := omega) only [wY_carry_81, nI_clamp, vp_in_nI, nI_1, nI_add, mb_lt_t, mb_lt_f, mb_le_t, mb_le_f, mb_ne, mb_lt0, mb_le0, mb_m1, mb_m1l, mb_m1g, mb_m1n, mb_x2, mb_x4, mb_x32, mb_lt_4, mb_le_4, mb_ge_4, mb_gt_4, mb_le_3, mb_gt_3, mb_le_7, mb_gt_7, mb_lt_32, mb_ge_32, mb_lt_128, mb_ge_128, mb_ge_1, mb_lt_1, mb_ge_1f, mb_lt_1t, not_true, not_false_iff, false_implies, true_implies, true_and, and_true, forall_eq, forall_const, eq_self, mb_e10, h1, h2, h3]
      exact K
    · have K' := ih (i + 1) (by omega) (by omega)
      have hno := hn i (by omega)
      by_cases k1 : kd i = 3
      · by_cases k2 : hm i = b
        · have k3 : ¬ lk i = t := fun z => hno ⟨k1, k2, z⟩
          simp (disch := omega) only [wY_carry_81, nI_clamp, vp_in_nI, nI_1, nI_add, mb_lt_t, mb_lt_f, mb_le_t, mb_le_f, mb_ne, mb_lt0, mb_le0, mb_m1, mb_m1l, mb_m1g, mb_m1n, mb_x2, mb_x4, mb_x32, mb_lt_4, mb_le_4, mb_ge_4, mb_gt_4, mb_le_3, mb_gt_3, mb_le_7, mb_gt_7, mb_lt_32, mb_ge_32, mb_lt_128, mb_ge_128, mb_ge_1, mb_lt_1, mb_ge_1f, mb_lt_1t, not_true, not_false_iff, false_implies, true_implies, true_and, and_true, forall_eq, forall_const, eq_self, mb_e10, k1, k2, k3]
          exact K'
        · simp (disch := omega) only [wY_carry_81, nI_clamp, vp_in_nI, nI_1, nI_add, mb_lt_t, mb_lt_f, mb_le_t, mb_le_f, mb_ne, mb_lt0, mb_le0, mb_m1, mb_m1l, mb_m1g, mb_m1n, mb_x2, mb_x4, mb_x32, mb_lt_4, mb_le_4, mb_ge_4, mb_gt_4, mb_le_3, mb_gt_3, mb_le_7, mb_gt_7, mb_lt_32, mb_ge_32, mb_lt_128, mb_ge_128, mb_ge_1, mb_lt_1, mb_ge_1f, mb_lt_1t, not_true, not_false_iff, false_implies, true_implies, true_and, and_true, forall_eq, forall_const, eq_self, mb_e10, k1, k2]
          exact K'
      · simp (disch := omega) only [wY_carry_81, nI_clamp, vp_in_nI, nI_1, nI_add, mb_lt_t, mb_lt_f, mb_le_t, mb_le_f, mb_ne, mb_lt0, mb_le0, mb_m1, mb_m1l, mb_m1g, mb_m1n, mb_x2, mb_x4, mb_x32, mb_lt_4, mb_le_4, mb_ge_4, mb_gt_4, mb_le_3, mb_gt_3, mb_le_7, mb_gt_7, mb_lt_32, mb_ge_32, mb_lt_128, mb_ge_128, mb_ge_1, mb_lt_1, mb_ge_1f, mb_lt_1t, not_true, not_false_iff, false_implies, true_implies, true_and, and_true, forall_eq, forall_const, eq_self, mb_e10, k1]
        exact K'
theorem my_miss {post : Int32 → SY → Prop} {t b : Int32} (hc : c ≤ 32) (hn : ∀ j, j < c → ¬ (kd j = 3 ∧ hm j = b ∧ lk j = t)) (K : ∀ m, wY_carry_81 post t b (nI n) (nI p) (nI nd) (nI c) flt par rev regs pop px py plen pcs st kd hm lk (mb_ev sl) (mb_od sl) ht hx he (m + 1) (nI c)) : ∀ m i : Nat, i ≤ c → c - i < m → wY_carry_81 post t b (nI n) (nI p) (nI nd) (nI c) flt par rev regs pop px py plen pcs st kd hm lk (mb_ev sl) (mb_od sl) ht hx he m (nI i) := by
  intro m
  induction m with
  | zero => intro i _ z; omega
  | succ m ih =>
    intro i hi z
    by_cases e : i = c
    · subst e
      exact K m
    · have K' := ih (i + 1) (by omega) (by omega)
      have hno := hn i (by omega)
      by_cases k1 : kd i = 3
      · by_cases k2 : hm i = b
        · have k3 : ¬ lk i = t := fun z => hno ⟨k1, k2, z⟩
          simp (disch := omega) only [wY_carry_81, nI_clamp, vp_in_nI, nI_1, nI_add, mb_lt_t, mb_lt_f, mb_le_t, mb_le_f, mb_ne, mb_lt0, mb_le0, mb_m1, mb_m1l, mb_m1g, mb_m1n, mb_x2, mb_x4, mb_x32, mb_lt_4, mb_le_4, mb_ge_4, mb_gt_4, mb_le_3, mb_gt_3, mb_le_7, mb_gt_7, mb_lt_32, mb_ge_32, mb_lt_128, mb_ge_128, mb_ge_1, mb_lt_1, mb_ge_1f, mb_lt_1t, not_true, not_false_iff, false_implies, true_implies, true_and, and_true, forall_eq, forall_const, eq_self, mb_e10, k1, k2, k3]
          exact K'
        · simp (disch := omega) only [wY_carry_81, nI_clamp, vp_in_nI, nI_1, nI_add, mb_lt_t, mb_lt_f, mb_le_t, mb_le_f, mb_ne, mb_lt0, mb_le0, mb_m1, mb_m1l, mb_m1g, mb_m1n, mb_x2, mb_x4, mb_x32, mb_lt_4, mb_le_4, mb_ge_4, mb_gt_4, mb_le_3, mb_gt_3, mb_le_7, mb_gt_7, mb_lt_32, mb_ge_32, mb_lt_128, mb_ge_128, mb_ge_1, mb_lt_1, mb_ge_1f, mb_lt_1t, not_true, not_false_iff, false_implies, true_implies, true_and, and_true, forall_eq, forall_const, eq_self, mb_e10, k1, k2]
          exact K'
      · simp (disch := omega) only [wY_carry_81, nI_clamp, vp_in_nI, nI_1, nI_add, mb_lt_t, mb_lt_f, mb_le_t, mb_le_f, mb_ne, mb_lt0, mb_le0, mb_m1, mb_m1l, mb_m1g, mb_m1n, mb_x2, mb_x4, mb_x32, mb_lt_4, mb_le_4, mb_ge_4, mb_gt_4, mb_le_3, mb_gt_3, mb_le_7, mb_gt_7, mb_lt_32, mb_ge_32, mb_lt_128, mb_ge_128, mb_ge_1, mb_lt_1, mb_ge_1f, mb_lt_1t, not_true, not_false_iff, false_implies, true_implies, true_and, and_true, forall_eq, forall_const, eq_self, mb_e10, k1]
        exact K'
theorem my_end_full {post : Int32 → SY → Prop} {t b : Int32} {m : Nat} (hc : n ≤ c) (hn : c ≤ 32) (K : post (-2) (nI n, nI p, nI nd, nI c, flt, par, rev, regs, pop, px, py, plen, pcs, st, kd, hm, lk, mb_ev sl, mb_od sl, ht, hx, he)) : wY_carry_81 post t b (nI n) (nI p) (nI nd) (nI c) flt par rev regs pop px py plen pcs st kd hm lk (mb_ev sl) (mb_od sl) ht hx he (m + 1) (nI c) := by
  simp (disch := omega) only [wY_carry_81, nI_clamp, vp_in_nI, nI_1, nI_add, mb_lt_t, mb_lt_f, mb_le_t, mb_le_f, mb_ne, mb_lt0, mb_le0, mb_m1, mb_m1l, mb_m1g, mb_m1n, mb_x2, mb_x4, mb_x32, mb_lt_4, mb_le_4, mb_ge_4, mb_gt_4, mb_le_3, mb_gt_3, mb_le_7, mb_gt_7, mb_lt_32, mb_ge_32, mb_lt_128, mb_ge_128, mb_ge_1, mb_lt_1, mb_ge_1f, mb_lt_1t, not_true, not_false_iff, false_implies, true_implies, true_and, and_true, forall_eq, forall_const, eq_self, mb_e10]
  exact K
theorem my_end_mk {post : Int32 → SY → Prop} {h l : Int32} {m : Nat} (hc : c < n) (hn : n ≤ 32) (K : post (nI c) (nI n, nI p, nI nd, nI (c + 1), flt, par, rev, regs, pop, px, py, plen, pcs, st, (upd kd c 3), (upd hm c h), (upd lk c l), (mb_ev (upd (upd sl (c * 2) (-1)) (c * 2 + 1) (-1))), (mb_od (upd (upd sl (c * 2) (-1)) (c * 2 + 1) (-1))), (upd ht c 0), hx, he)) : wY_carry_81 post l h (nI n) (nI p) (nI nd) (nI c) flt par rev regs pop px py plen pcs st kd hm lk (mb_ev sl) (mb_od sl) ht hx he (m + 1) (nI c) := by
  simp (disch := omega) only [wY_carry_81, nI_clamp, vp_in_nI, nI_1, nI_add, mb_lt_t, mb_lt_f, mb_le_t, mb_le_f, mb_ne, mb_lt0, mb_le0, mb_m1, mb_m1l, mb_m1g, mb_m1n, mb_x2, mb_x4, mb_x32, mb_lt_4, mb_le_4, mb_ge_4, mb_gt_4, mb_le_3, mb_gt_3, mb_le_7, mb_gt_7, mb_lt_32, mb_ge_32, mb_lt_128, mb_ge_128, mb_ge_1, mb_lt_1, mb_ge_1f, mb_lt_1t, not_true, not_false_iff, false_implies, true_implies, true_and, and_true, forall_eq, forall_const, eq_self, mb_e10]
  exact my_mk (by omega) K
/-- where the reference isn't a forwarder that goes home, both sides look for a forwarder -/
theorem mx_go {post : Int32 → SX → Prop} {j a b : Nat} (hj : j < c) (hc : c ≤ 32) (o : mb_ob nd j (kd j) (hm j) (lk j)) (hno : ¬ (kd j = 3 ∧ hm j = nI a ∧ hm (lk j).toNatClampNeg = nI b))
    (K : wX_carry_49 post (nI j) (nI b) (nI n) (nI p) (nI nd) (nI c) par rev st pcs regs plen pop px py kd hm lk ht sl path) : wpX_carry post (nI n, nI p, nI nd, nI c, par, rev, st, pcs, regs, plen, pop, px, py, kd, hm, lk, ht, sl, path) (nI j) (nI a) (nI b) := by
  by_cases k3 : kd j = 3
  · obtain ⟨t, h1, et⟩ := mb_fw o k3
    by_cases e1 : hm j = nI a
    · have e2 : ¬ hm t = nI b := fun e => hno ⟨k3, e1, by rw [et, nI_clamp (by omega)]; exact e⟩
      simp (disch := omega) only [wpX_carry, nI_clamp, vp_in_nI, nI_1, nI_add, mb_lt_t, mb_lt_f, mb_le_t, mb_le_f, mb_ne, mb_lt0, mb_le0, mb_m1, mb_m1l, mb_m1g, mb_m1n, mb_x2, mb_x4, mb_x32, mb_lt_4, mb_le_4, mb_ge_4, mb_gt_4, mb_le_3, mb_gt_3, mb_le_7, mb_gt_7, mb_lt_32, mb_ge_32, mb_lt_128, mb_ge_128, mb_ge_1, mb_lt_1, mb_ge_1f, mb_lt_1t, not_true, not_false_iff, false_implies, true_implies, true_and, and_true, forall_eq, forall_const, eq_self, mb_e10, k3, e1, et, e2]
      exact K
    · simp (disch := omega) only [wpX_carry, nI_clamp, vp_in_nI, nI_1, nI_add, mb_lt_t, mb_lt_f, mb_le_t, mb_le_f, mb_ne, mb_lt0, mb_le0, mb_m1, mb_m1l, mb_m1g, mb_m1n, mb_x2, mb_x4, mb_x32, mb_lt_4, mb_le_4, mb_ge_4, mb_gt_4, mb_le_3, mb_gt_3, mb_le_7, mb_gt_7, mb_lt_32, mb_ge_32, mb_lt_128, mb_ge_128, mb_ge_1, mb_lt_1, mb_ge_1f, mb_lt_1t, not_true, not_false_iff, false_implies, true_implies, true_and, and_true, forall_eq, forall_const, eq_self, mb_e10, k3, e1]
      exact K
  · simp (disch := omega) only [wpX_carry, nI_clamp, vp_in_nI, nI_1, nI_add, mb_lt_t, mb_lt_f, mb_le_t, mb_le_f, mb_ne, mb_lt0, mb_le0, mb_m1, mb_m1l, mb_m1g, mb_m1n, mb_x2, mb_x4, mb_x32, mb_lt_4, mb_le_4, mb_ge_4, mb_gt_4, mb_le_3, mb_gt_3, mb_le_7, mb_gt_7, mb_lt_32, mb_ge_32, mb_lt_128, mb_ge_128, mb_ge_1, mb_lt_1, mb_ge_1f, mb_lt_1t, not_true, not_false_iff, false_implies, true_implies, true_and, and_true, forall_eq, forall_const, eq_self, mb_e10, k3]
    exact K
theorem my_go {post : Int32 → SY → Prop} {j a b : Nat} (hj : j < c) (hc : c ≤ 32) (o : mb_ob nd j (kd j) (hm j) (lk j)) (hno : ¬ (kd j = 3 ∧ hm j = nI a ∧ hm (lk j).toNatClampNeg = nI b))
    (K : ∃ m, wY_carry_81 post (nI j) (nI b) (nI n) (nI p) (nI nd) (nI c) flt par rev regs pop px py plen pcs st kd hm lk (mb_ev sl) (mb_od sl) ht hx he m 0) : wpY_carry post (nI n, nI p, nI nd, nI c, flt, par, rev, regs, pop, px, py, plen, pcs, st, kd, hm, lk, mb_ev sl, mb_od sl, ht, hx, he) (nI j) (nI a) (nI b) := by
  by_cases k3 : kd j = 3
  · obtain ⟨t, h1, et⟩ := mb_fw o k3
    by_cases e1 : hm j = nI a
    · have e2 : ¬ hm t = nI b := fun e => hno ⟨k3, e1, by rw [et, nI_clamp (by omega)]; exact e⟩
      simp (disch := omega) only [wpY_carry, nI_clamp, vp_in_nI, nI_1, nI_add, mb_lt_t, mb_lt_f, mb_le_t, mb_le_f, mb_ne, mb_lt0, mb_le0, mb_m1, mb_m1l, mb_m1g, mb_m1n, mb_x2, mb_x4, mb_x32, mb_lt_4, mb_le_4, mb_ge_4, mb_gt_4, mb_le_3, mb_gt_3, mb_le_7, mb_gt_7, mb_lt_32, mb_ge_32, mb_lt_128, mb_ge_128, mb_ge_1, mb_lt_1, mb_ge_1f, mb_lt_1t, not_true, not_false_iff, false_implies, true_implies, true_and, and_true, forall_eq, forall_const, eq_self, mb_e10, k3, e1, et, e2]
      exact K
    · simp (disch := omega) only [wpY_carry, nI_clamp, vp_in_nI, nI_1, nI_add, mb_lt_t, mb_lt_f, mb_le_t, mb_le_f, mb_ne, mb_lt0, mb_le0, mb_m1, mb_m1l, mb_m1g, mb_m1n, mb_x2, mb_x4, mb_x32, mb_lt_4, mb_le_4, mb_ge_4, mb_gt_4, mb_le_3, mb_gt_3, mb_le_7, mb_gt_7, mb_lt_32, mb_ge_32, mb_lt_128, mb_ge_128, mb_ge_1, mb_lt_1, mb_ge_1f, mb_lt_1t, not_true, not_false_iff, false_implies, true_implies, true_and, and_true, forall_eq, forall_const, eq_self, mb_e10, k3, e1]
      exact K
  · simp (disch := omega) only [wpY_carry, nI_clamp, vp_in_nI, nI_1, nI_add, mb_lt_t, mb_lt_f, mb_le_t, mb_le_f, mb_ne, mb_lt0, mb_le0, mb_m1, mb_m1l, mb_m1g, mb_m1n, mb_x2, mb_x4, mb_x32, mb_lt_4, mb_le_4, mb_ge_4, mb_gt_4, mb_le_3, mb_gt_3, mb_le_7, mb_gt_7, mb_lt_32, mb_ge_32, mb_lt_128, mb_ge_128, mb_ge_1, mb_lt_1, mb_ge_1f, mb_lt_1t, not_true, not_false_iff, false_implies, true_implies, true_and, and_true, forall_eq, forall_const, eq_self, mb_e10, k3]
    exact K
theorem mb_carry (H : mb_H n nd c kd hm lk sl) {r : Int32} (hr : mb_ref c r) {a b : Nat} (ha : a < nd) (hb : b < nd) (ht : Nat → Int32) :
    ∃ (c' : Nat) (kd' hm' lk' ht' sl' : Nat → Int32) (rX rY : Int32), mb_H n nd c' kd' hm' lk' sl' ∧ mb_E c kd hm lk c' kd' hm' lk' ∧ ((mb_ref c' rX ∧ rY = rX) ∨ (rX = -4 ∧ rY = -2)) ∧
      (∀ (p : Nat) (par rev st pcs regs plen pop px py path : Nat → Int32) (post : Int32 → SX → Prop), post rX (nI n, nI p, nI nd, nI c', par, rev, st, pcs, regs, plen, pop, px, py, kd', hm', lk', ht', sl', path) → wpX_carry post (nI n, nI p, nI nd, nI c, par, rev, st, pcs, regs, plen, pop, px, py, kd, hm, lk, ht, sl, path) r (nI a) (nI b)) ∧ (∀ (p : Nat) (flt : Int32) (par rev regs pop px py plen pcs st hx he : Nat → Int32) (post : Int32 → SY → Prop), post rY (nI n, nI p, nI nd, nI c', flt, par, rev, regs, pop, px, py, plen, pcs, st, kd', hm', lk', (mb_ev sl'), (mb_od sl'), ht', hx, he) → wpY_carry post (nI n, nI p, nI nd, nI c, flt, par, rev, regs, pop, px, py, plen, pcs, st, kd, hm, lk, mb_ev sl, mb_od sl, ht, hx, he) r (nI a) (nI b)) := by
  have hn : n ≤ 32 := H.2.1
  have hcn : c ≤ n := H.1
  rcases hr with rfl | ⟨j, hj, rfl⟩
  · refine ⟨c, kd, hm, lk, ht, sl, -1, -1, H, mb_E_rf, Or.inl ⟨Or.inl rfl, rfl⟩, ?_, ?_⟩
    · intro p par rev st pcs regs plen pop px py path post K
      exact br_t rfl K
    · intro p flt par rev regs pop px py plen pcs st hx he post K
      exact br_t rfl K
  · have o := mb_H_ob H hj
    by_cases hh : kd j = 3 ∧ hm j = nI a ∧ hm (lk j).toNatClampNeg = nI b
    · obtain ⟨k3, e1, e2⟩ := hh
      obtain ⟨t, h1, et⟩ := mb_fw o k3
      rw [et, nI_clamp (by omega)] at e2
      refine ⟨c, kd, hm, lk, ht, sl, nI t, nI t, H, mb_E_rf, Or.inl ⟨Or.inr ⟨t, by omega, rfl⟩, rfl⟩, ?_, ?_⟩
      · intro p par rev st pcs regs plen pop px py path post K
        simp (disch := omega) only [wpX_carry, nI_clamp, vp_in_nI, nI_1, nI_add, mb_lt_t, mb_lt_f, mb_le_t, mb_le_f, mb_ne, mb_lt0, mb_le0, mb_m1, mb_m1l, mb_m1g, mb_m1n, mb_x2, mb_x4, mb_x32, mb_lt_4, mb_le_4, mb_ge_4, mb_gt_4, mb_le_3, mb_gt_3, mb_le_7, mb_gt_7, mb_lt_32, mb_ge_32, mb_lt_128, mb_ge_128, mb_ge_1, mb_lt_1, mb_ge_1f, mb_lt_1t, not_true, not_false_iff, false_implies, true_implies, true_and, and_true, forall_eq, forall_const, eq_self, mb_e10, k3, e1, et, e2]
        exact K
      · intro p flt par rev regs pop px py plen pcs st hx he post K
        simp (disch := omega) only [wpY_carry, nI_clamp, vp_in_nI, nI_1, nI_add, mb_lt_t, mb_lt_f, mb_le_t, mb_le_f, mb_ne, mb_lt0, mb_le0, mb_m1, mb_m1l, mb_m1g, mb_m1n, mb_x2, mb_x4, mb_x32, mb_lt_4, mb_le_4, mb_ge_4, mb_gt_4, mb_le_3, mb_gt_3, mb_le_7, mb_gt_7, mb_lt_32, mb_ge_32, mb_lt_128, mb_ge_128, mb_ge_1, mb_lt_1, mb_ge_1f, mb_lt_1t, not_true, not_false_iff, false_implies, true_implies, true_and, and_true, forall_eq, forall_const, eq_self, mb_e10, k3, e1, et, e2]
        exact K
    · rcases mb_first (fun f => kd f = 3 ∧ hm f = nI b ∧ lk f = nI j) c with ⟨f, hf, ⟨f1, f2, f3⟩, fm⟩ | fm
      · refine ⟨c, kd, hm, lk, ht, sl, nI f, nI f, H, mb_E_rf, Or.inl ⟨Or.inr ⟨f, hf, rfl⟩, rfl⟩, ?_, ?_⟩
        · intro p par rev st pcs regs plen pop px py path post K
          refine mx_go hj (by omega) o hh ?_
          refine ⟨c + 1, mx_hit hf (by omega) f1 f2 f3 fm ?_ (c + 1) 0 (by omega) (by omega)⟩
          exact br_f (mb_n1 (by omega)) K
        · intro p flt par rev regs pop px py plen pcs st hx he post K
          refine my_go hj (by omega) o hh ?_
          exact ⟨c + 1, my_hit hf (by omega) f1 f2 f3 fm K (c + 1) 0 (by omega) (by omega)⟩
      · by_cases hfull : c < n
        · refine ⟨c + 1, upd kd c 3, upd hm c (nI b), upd lk c (nI j), upd ht c 0, upd (upd sl (c * 2) (-1)) (c * 2 + 1) (-1), nI c, nI c, mb_mk H hfull ⟨⟨b, hb, rfl⟩, Or.inr (Or.inr ⟨rfl, j, hj, rfl⟩)⟩, mb_mkE, Or.inl ⟨Or.inr ⟨c, by omega, rfl⟩, rfl⟩, ?_, ?_⟩
          · intro p par rev st pcs regs plen pop px py path post K
            refine mx_go hj (by omega) o hh ?_
            refine ⟨c + 1, mx_miss (by omega) fm ?_ (c + 1) 0 (by omega) (by omega)⟩
            refine br_t rfl ?_
            exact mx_mk hfull hn K
          · intro p flt par rev regs pop px py plen pcs st hx he post K
            refine my_go hj (by omega) o hh ?_
            exact ⟨c + 1, my_miss (by omega) fm (fun m => my_end_mk hfull hn K) (c + 1) 0 (by omega) (by omega)⟩
        · refine ⟨c, kd, hm, lk, ht, sl, -4, -2, H, mb_E_rf, Or.inr ⟨rfl, rfl⟩, ?_, ?_⟩
          · intro p par rev st pcs regs plen pop px py path post K
            refine mx_go hj (by omega) o hh ?_
            refine ⟨c + 1, mx_miss (by omega) fm ?_ (c + 1) 0 (by omega) (by omega)⟩
            refine br_t rfl ?_
            exact mx_full (by omega) (by omega) K
          · intro p flt par rev regs pop px py plen pcs st hx he post K
            refine my_go hj (by omega) o hh ?_
            exact ⟨c + 1, my_miss (by omega) fm (fun m => my_end_full (by omega) (by omega) K) (c + 1) 0 (by omega) (by omega)⟩
end
end
section
section
variable {n p nd c c1 : Nat} {par rev st pcs regs plen pop px py kd hm lk ht sl path hx he kd1 hm1 lk1 ht1 sl1 : Nat → Int32} {flt aX aY res : Int32}
theorem mx_mbE {post : Int32 → Prop} {x y : Nat} (h1 : x < 4) (h2 : y < 4) : wpX_membraneBetween post (nI x) (nI y) = post (nI (mb_mx x y)) := by
  unfold mb_mx
  by_cases z : y < x
  · rw [if_pos z]
    simp (disch := omega) only [wpX_membraneBetween, nI_clamp, vp_in_nI, nI_1, nI_add, mb_lt_t, mb_lt_f, mb_le_t, mb_le_f, mb_ne, mb_lt0, mb_le0, mb_m1, mb_m1l, mb_m1g, mb_m1n, mb_x2, mb_x4, mb_x32, mb_lt_4, mb_le_4, mb_ge_4, mb_gt_4, mb_le_3, mb_gt_3, mb_le_7, mb_gt_7, mb_lt_32, mb_ge_32, mb_lt_128, mb_ge_128, mb_ge_1, mb_lt_1, mb_ge_1f, mb_lt_1t, not_true, not_false_iff, false_implies, true_implies, true_and, and_true, forall_eq, forall_const, eq_self, mb_e10]
  · rw [if_neg z]
    simp (disch := omega) only [wpX_membraneBetween, nI_clamp, vp_in_nI, nI_1, nI_add, mb_lt_t, mb_lt_f, mb_le_t, mb_le_f, mb_ne, mb_lt0, mb_le0, mb_m1, mb_m1l, mb_m1g, mb_m1n, mb_x2, mb_x4, mb_x32, mb_lt_4, mb_le_4, mb_ge_4, mb_gt_4, mb_le_3, mb_gt_3, mb_le_7, mb_gt_7, mb_lt_32, mb_ge_32, mb_lt_128, mb_ge_128, mb_ge_1, mb_lt_1, mb_ge_1f, mb_lt_1t, not_true, not_false_iff, false_implies, true_implies, true_and, and_true, forall_eq, forall_const, eq_self, mb_e10]
theorem mx_bk {post : Int32 → SX → Prop} {m k x y : Nat} (hk : k < 32) (h1 : x < 4) (h2 : y < 4) (ex : path k = nI x) (ey : path (k + 1) = nI y) (rv : rev (mb_mx x y) = 0)
    (cX : ∀ post' : Int32 → SX → Prop, post' aX (nI n, nI p, nI nd, nI c1, par, rev, st, pcs, regs, plen, pop, px, py, kd1, hm1, lk1, ht1, sl1, path) → wpX_carry post' (nI n, nI p, nI nd, nI c, par, rev, st, pcs, regs, plen, pop, px, py, kd, hm, lk, ht, sl, path) res (nI y) (nI x)) (nf : -1 ≤ aX) (K : wX_carryBack_7 post m aX (nI k + -1) (nI n) (nI p) (nI nd) (nI c1) par rev st pcs regs plen pop px py kd1 hm1 lk1 ht1 sl1 path) : wX_carryBack_7 post (m + 1) res (nI (k + 1) + -1) (nI n) (nI p) (nI nd) (nI c) par rev st pcs regs plen pop px py kd hm lk ht sl path := by
  rw [pk_m1]
  have hmx := mb_mx_lt (d := 4) h1 h2
  simp (disch := omega) only [wX_carryBack_7, mx_mbE, nI_clamp, vp_in_nI, nI_1, nI_add, mb_lt_t, mb_lt_f, mb_le_t, mb_le_f, mb_ne, mb_lt0, mb_le0, mb_m1, mb_m1l, mb_m1g, mb_m1n, mb_x2, mb_x4, mb_x32, mb_lt_4, mb_le_4, mb_ge_4, mb_gt_4, mb_le_3, mb_gt_3, mb_le_7, mb_gt_7, mb_lt_32, mb_ge_32, mb_lt_128, mb_ge_128, mb_ge_1, mb_lt_1, mb_ge_1f, mb_lt_1t, not_true, not_false_iff, false_implies, true_implies, true_and, and_true, forall_eq, forall_const, eq_self, mb_e10, ex, ey, rv]
  refine cX _ ?_
  simp (disch := omega) only [wpX_isFault, nI_clamp, vp_in_nI, nI_1, nI_add, mb_lt_t, mb_lt_f, mb_le_t, mb_le_f, mb_ne, mb_lt0, mb_le0, mb_m1, mb_m1l, mb_m1g, mb_m1n, mb_x2, mb_x4, mb_x32, mb_lt_4, mb_le_4, mb_ge_4, mb_gt_4, mb_le_3, mb_gt_3, mb_le_7, mb_gt_7, mb_lt_32, mb_ge_32, mb_lt_128, mb_ge_128, mb_ge_1, mb_lt_1, mb_ge_1f, mb_lt_1t, not_true, not_false_iff, false_implies, true_implies, true_and, and_true, forall_eq, forall_const, eq_self, mb_e10, nf]
  exact K
theorem mx_bkf {post : Int32 → SX → Prop} {m k x y : Nat} (hk : k < 32) (h1 : x < 4) (h2 : y < 4) (ex : path k = nI x) (ey : path (k + 1) = nI y) (rv : rev (mb_mx x y) = 0)
    (cX : ∀ post' : Int32 → SX → Prop, post' (-4) (nI n, nI p, nI nd, nI c1, par, rev, st, pcs, regs, plen, pop, px, py, kd1, hm1, lk1, ht1, sl1, path) → wpX_carry post' (nI n, nI p, nI nd, nI c, par, rev, st, pcs, regs, plen, pop, px, py, kd, hm, lk, ht, sl, path) res (nI y) (nI x)) (K : post (-4) (nI n, nI p, nI nd, nI c1, par, rev, st, pcs, regs, plen, pop, px, py, kd1, hm1, lk1, ht1, sl1, path)) : wX_carryBack_7 post (m + 1) res (nI (k + 1) + -1) (nI n) (nI p) (nI nd) (nI c) par rev st pcs regs plen pop px py kd hm lk ht sl path := by
  rw [pk_m1]
  have hmx := mb_mx_lt (d := 4) h1 h2
  simp (disch := omega) only [wX_carryBack_7, mx_mbE, nI_clamp, vp_in_nI, nI_1, nI_add, mb_lt_t, mb_lt_f, mb_le_t, mb_le_f, mb_ne, mb_lt0, mb_le0, mb_m1, mb_m1l, mb_m1g, mb_m1n, mb_x2, mb_x4, mb_x32, mb_lt_4, mb_le_4, mb_ge_4, mb_gt_4, mb_le_3, mb_gt_3, mb_le_7, mb_gt_7, mb_lt_32, mb_ge_32, mb_lt_128, mb_ge_128, mb_ge_1, mb_lt_1, mb_ge_1f, mb_lt_1t, not_true, not_false_iff, false_implies, true_implies, true_and, and_true, forall_eq, forall_const, eq_self, mb_e10, ex, ey, rv]
  refine cX _ ?_
  have nf : ¬ ((-1 : Int32) ≤ -4) := by decide
  simp (disch := omega) only [wpX_isFault, nI_clamp, vp_in_nI, nI_1, nI_add, mb_lt_t, mb_lt_f, mb_le_t, mb_le_f, mb_ne, mb_lt0, mb_le0, mb_m1, mb_m1l, mb_m1g, mb_m1n, mb_x2, mb_x4, mb_x32, mb_lt_4, mb_le_4, mb_ge_4, mb_gt_4, mb_le_3, mb_gt_3, mb_le_7, mb_gt_7, mb_lt_32, mb_ge_32, mb_lt_128, mb_ge_128, mb_ge_1, mb_lt_1, mb_ge_1f, mb_lt_1t, not_true, not_false_iff, false_implies, true_implies, true_and, and_true, forall_eq, forall_const, eq_self, mb_e10, nf]
  exact K
theorem mx_bkr {post : Int32 → SX → Prop} {m k x y : Nat} (hk : k < 32) (h1 : x < 4) (h2 : y < 4) (ex : path k = nI x) (ey : path (k + 1) = nI y) (rv : ¬ rev (mb_mx x y) = 0)
    (K : post (-3) (nI n, nI p, nI nd, nI c, par, rev, st, pcs, regs, plen, pop, px, py, kd, hm, lk, ht, sl, path)) : wX_carryBack_7 post (m + 1) res (nI (k + 1) + -1) (nI n) (nI p) (nI nd) (nI c) par rev st pcs regs plen pop px py kd hm lk ht sl path := by
  rw [pk_m1]
  have hmx := mb_mx_lt (d := 4) h1 h2
  simp (disch := omega) only [wX_carryBack_7, mx_mbE, nI_clamp, vp_in_nI, nI_1, nI_add, mb_lt_t, mb_lt_f, mb_le_t, mb_le_f, mb_ne, mb_lt0, mb_le0, mb_m1, mb_m1l, mb_m1g, mb_m1n, mb_x2, mb_x4, mb_x32, mb_lt_4, mb_le_4, mb_ge_4, mb_gt_4, mb_le_3, mb_gt_3, mb_le_7, mb_gt_7, mb_lt_32, mb_ge_32, mb_lt_128, mb_ge_128, mb_ge_1, mb_lt_1, mb_ge_1f, mb_lt_1t, not_true, not_false_iff, false_implies, true_implies, true_and, and_true, forall_eq, forall_const, eq_self, mb_e10, ex, ey, rv]
  exact K
theorem my_b379 {post : Int32 → SY → Prop} {J : Int32 → Int32 → Int32 → Int32 → Int32 → Int32 → Int32 → (Nat → Int32) → (Nat → Int32) → (Nat → Int32) → (Nat → Int32) → (Nat → Int32) → (Nat → Int32) → (Nat → Int32) → (Nat → Int32) → (Nat → Int32) → (Nat → Int32) → (Nat → Int32) → (Nat → Int32) → (Nat → Int32) → (Nat → Int32) → (Nat → Int32) → (Nat → Int32) → (Nat → Int32) → Prop} {x9 x10 x11 : Int32} {z : Nat} (hz : z < 4) (rv : rev z = 0)
    (K : wY_invoke_409 post J res x9 x10 x11 (nI n) (nI p) (nI nd) (nI c) flt par rev regs pop px py plen pcs st kd hm lk (mb_ev sl) (mb_od sl) ht hx he) : wY_invoke_379 post J res x9 x10 x11 (nI z) (nI n) (nI p) (nI nd) (nI c) flt par rev regs pop px py plen pcs st kd hm lk (mb_ev sl) (mb_od sl) ht hx he := by
  simp (disch := omega) only [wY_invoke_379, nI_clamp, vp_in_nI, nI_1, nI_add, mb_lt_t, mb_lt_f, mb_le_t, mb_le_f, mb_ne, mb_lt0, mb_le0, mb_m1, mb_m1l, mb_m1g, mb_m1n, mb_x2, mb_x4, mb_x32, mb_lt_4, mb_le_4, mb_ge_4, mb_gt_4, mb_le_3, mb_gt_3, mb_le_7, mb_gt_7, mb_lt_32, mb_ge_32, mb_lt_128, mb_ge_128, mb_ge_1, mb_lt_1, mb_ge_1f, mb_lt_1t, not_true, not_false_iff, false_implies, true_implies, true_and, and_true, forall_eq, forall_const, eq_self, mb_e10, rv]
  exact K
theorem my_b379r {post : Int32 → SY → Prop} {J : Int32 → Int32 → Int32 → Int32 → Int32 → Int32 → Int32 → (Nat → Int32) → (Nat → Int32) → (Nat → Int32) → (Nat → Int32) → (Nat → Int32) → (Nat → Int32) → (Nat → Int32) → (Nat → Int32) → (Nat → Int32) → (Nat → Int32) → (Nat → Int32) → (Nat → Int32) → (Nat → Int32) → (Nat → Int32) → (Nat → Int32) → (Nat → Int32) → (Nat → Int32) → Prop} {x9 x10 x11 : Int32} {z : Nat} (hz : z < 4) (rv : ¬ rev z = 0)
    (K : post (-1) (nI n, nI p, nI nd, nI c, 2, par, rev, regs, pop, px, py, plen, pcs, st, kd, hm, lk, mb_ev sl, mb_od sl, ht, hx, he)) : wY_invoke_379 post J res x9 x10 x11 (nI z) (nI n) (nI p) (nI nd) (nI c) flt par rev regs pop px py plen pcs st kd hm lk (mb_ev sl) (mb_od sl) ht hx he := by
  simp (disch := omega) only [wY_invoke_379, nI_clamp, vp_in_nI, nI_1, nI_add, mb_lt_t, mb_lt_f, mb_le_t, mb_le_f, mb_ne, mb_lt0, mb_le0, mb_m1, mb_m1l, mb_m1g, mb_m1n, mb_x2, mb_x4, mb_x32, mb_lt_4, mb_le_4, mb_ge_4, mb_gt_4, mb_le_3, mb_gt_3, mb_le_7, mb_gt_7, mb_lt_32, mb_ge_32, mb_lt_128, mb_ge_128, mb_ge_1, mb_lt_1, mb_ge_1f, mb_lt_1t, not_true, not_false_iff, false_implies, true_implies, true_and, and_true, forall_eq, forall_const, eq_self, mb_e10, rv]
  exact K
theorem my_b342 {post : Int32 → SY → Prop} {m k x y : Nat} (hk : k < 32) (h1 : x < 4) (h2 : y < 4) (ex : hx k = nI x) (ey : he k = nI y)
    (K : wY_invoke_379 post (wY_invoke_342 post m) res (nI k) (nI x) (nI y) (nI (mb_mx x y)) (nI n) (nI p) (nI nd) (nI c) flt par rev regs pop px py plen pcs st kd hm lk (mb_ev sl) (mb_od sl) ht hx he) : wY_invoke_342 post (m + 1) res (nI (k + 1) + -1) (nI n) (nI p) (nI nd) (nI c) flt par rev regs pop px py plen pcs st kd hm lk (mb_ev sl) (mb_od sl) ht hx he := by
  rw [pk_m1]
  by_cases z : x ≤ y
  · have emx : mb_mx x y = y := if_neg (by omega)
    rw [emx] at K
    simp (disch := omega) only [wY_invoke_342, nI_clamp, vp_in_nI, nI_1, nI_add, mb_lt_t, mb_lt_f, mb_le_t, mb_le_f, mb_ne, mb_lt0, mb_le0, mb_m1, mb_m1l, mb_m1g, mb_m1n, mb_x2, mb_x4, mb_x32, mb_lt_4, mb_le_4, mb_ge_4, mb_gt_4, mb_le_3, mb_gt_3, mb_le_7, mb_gt_7, mb_lt_32, mb_ge_32, mb_lt_128, mb_ge_128, mb_ge_1, mb_lt_1, mb_ge_1f, mb_lt_1t, not_true, not_false_iff, false_implies, true_implies, true_and, and_true, forall_eq, forall_const, eq_self, mb_e10, ex, ey]
    exact K
  · have emx : mb_mx x y = x := if_pos (by omega)
    rw [emx] at K
    simp (disch := omega) only [wY_invoke_342, nI_clamp, vp_in_nI, nI_1, nI_add, mb_lt_t, mb_lt_f, mb_le_t, mb_le_f, mb_ne, mb_lt0, mb_le0, mb_m1, mb_m1l, mb_m1g, mb_m1n, mb_x2, mb_x4, mb_x32, mb_lt_4, mb_le_4, mb_ge_4, mb_gt_4, mb_le_3, mb_gt_3, mb_le_7, mb_gt_7, mb_lt_32, mb_ge_32, mb_lt_128, mb_ge_128, mb_ge_1, mb_lt_1, mb_ge_1f, mb_lt_1t, not_true, not_false_iff, false_implies, true_implies, true_and, and_true, forall_eq, forall_const, eq_self, mb_e10, ex, ey]
    exact K
theorem my_b409 {post : Int32 → SY → Prop} {J : Int32 → Int32 → Int32 → Int32 → Int32 → Int32 → Int32 → (Nat → Int32) → (Nat → Int32) → (Nat → Int32) → (Nat → Int32) → (Nat → Int32) → (Nat → Int32) → (Nat → Int32) → (Nat → Int32) → (Nat → Int32) → (Nat → Int32) → (Nat → Int32) → (Nat → Int32) → (Nat → Int32) → (Nat → Int32) → (Nat → Int32) → (Nat → Int32) → (Nat → Int32) → Prop} {x10 x11 : Int32} {k : Nat}
    (cY : ∀ post' : Int32 → SY → Prop, post' aY (nI n, nI p, nI nd, nI c1, flt, par, rev, regs, pop, px, py, plen, pcs, st, kd1, hm1, lk1, (mb_ev sl1), (mb_od sl1), ht1, hx, he) → wpY_carry post' (nI n, nI p, nI nd, nI c, flt, par, rev, regs, pop, px, py, plen, pcs, st, kd, hm, lk, mb_ev sl, mb_od sl, ht, hx, he) res x11 x10) (nf : ¬ aY = -2) (K : J aY (nI k + -1) (nI n) (nI p) (nI nd) (nI c1) flt par rev regs pop px py plen pcs st kd1 hm1 lk1 (mb_ev sl1) (mb_od sl1) ht1 hx he) : wY_invoke_409 post J res (nI k) x10 x11 (nI n) (nI p) (nI nd) (nI c) flt par rev regs pop px py plen pcs st kd hm lk (mb_ev sl) (mb_od sl) ht hx he := by
  unfold wY_invoke_409
  refine cY _ ?_
  simp (disch := omega) only [not_true, not_false_iff, false_implies, true_implies, true_and, and_true, forall_eq, forall_const, eq_self, mb_e10, nf]
  exact K
theorem my_b409f {post : Int32 → SY → Prop} {J : Int32 → Int32 → Int32 → Int32 → Int32 → Int32 → Int32 → (Nat → Int32) → (Nat → Int32) → (Nat → Int32) → (Nat → Int32) → (Nat → Int32) → (Nat → Int32) → (Nat → Int32) → (Nat → Int32) → (Nat → Int32) → (Nat → Int32) → (Nat → Int32) → (Nat → Int32) → (Nat → Int32) → (Nat → Int32) → (Nat → Int32) → (Nat → Int32) → (Nat → Int32) → Prop} {x9 x10 x11 : Int32}
    (cY : ∀ post' : Int32 → SY → Prop, post' (-2) (nI n, nI p, nI nd, nI c1, flt, par, rev, regs, pop, px, py, plen, pcs, st, kd1, hm1, lk1, (mb_ev sl1), (mb_od sl1), ht1, hx, he) → wpY_carry post' (nI n, nI p, nI nd, nI c, flt, par, rev, regs, pop, px, py, plen, pcs, st, kd, hm, lk, mb_ev sl, mb_od sl, ht, hx, he) res x11 x10) (K : post (-1) (nI n, nI p, nI nd, nI c1, 3, par, rev, regs, pop, px, py, plen, pcs, st, kd1, hm1, lk1, (mb_ev sl1), (mb_od sl1), ht1, hx, he)) : wY_invoke_409 post J res x9 x10 x11 (nI n) (nI p) (nI nd) (nI c) flt par rev regs pop px py plen pcs st kd hm lk (mb_ev sl) (mb_od sl) ht hx he := by
  unfold wY_invoke_409
  refine cY _ ?_
  simp (disch := omega) only [not_true, not_false_iff, false_implies, true_implies, true_and, and_true, forall_eq, forall_const, eq_self, mb_e10]
  exact K
theorem mb_ref_le {c : Nat} {r : Int32} (h : mb_ref c r) (hc : c ≤ 32) : -1 ≤ r ∧ ¬ r = -2 := by
  rcases h with rfl | ⟨j, hj, rfl⟩
  · decide
  · have a : j < 2 ^ 31 := by omega
    exact ⟨of_eq_true (mb_m1l a), of_eq_false (mb_m1n a)⟩
/-- the way back: both sides in one outcome -/
theorem mb_back {g : Nat → Nat} : ∀ (k c : Nat) (kd hm lk ht sl : Nat → Int32) (res : Int32), mb_H n nd c kd hm lk sl → mb_ref c res → mb_W nd k g path hx he → k ≤ 32 →
    ∃ (c' : Nat) (kd' hm' lk' ht' sl' : Nat → Int32) (rX rY flt' : Int32), mb_H n nd c' kd' hm' lk' sl' ∧ mb_E c kd hm lk c' kd' hm' lk' ∧ mb_A c' rX rY flt' ∧
      (∀ (p : Nat) (par st pcs regs plen pop px py : Nat → Int32) (post : Int32 → SX → Prop), post rX (nI n, nI p, nI nd, nI c', par, rev, st, pcs, regs, plen, pop, px, py, kd', hm', lk', ht', sl', path) → ∀ m, k < m → wX_carryBack_7 post m res (nI k + -1) (nI n) (nI p) (nI nd) (nI c) par rev st pcs regs plen pop px py kd hm lk ht sl path) ∧ (∀ (p : Nat) (par regs pop px py plen pcs st : Nat → Int32) (post : Int32 → SY → Prop), post rY (nI n, nI p, nI nd, nI c', flt', par, rev, regs, pop, px, py, plen, pcs, st, kd', hm', lk', (mb_ev sl'), (mb_od sl'), ht', hx, he) → ∀ m, k < m → wY_invoke_342 post m res (nI k + -1) (nI n) (nI p) (nI nd) (nI c) 0 par rev regs pop px py plen pcs st kd hm lk (mb_ev sl) (mb_od sl) ht hx he) := by
  intro k
  induction k with
  | zero =>
    intro c kd hm lk ht sl res H hr W hk
    refine ⟨c, kd, hm, lk, ht, sl, res, res, 0, H, mb_E_rf, Or.inl ⟨rfl, rfl, hr⟩, ?_, ?_⟩
    · intro p par st pcs regs plen pop px py post K m h
      obtain ⟨m, rfl⟩ : ∃ q, m = q + 1 := ⟨m - 1, by omega⟩
      exact br_t (by decide) K
    · intro p par regs pop px py plen pcs st post K m h
      obtain ⟨m, rfl⟩ : ∃ q, m = q + 1 := ⟨m - 1, by omega⟩
      exact br_t (by decide) K
  | succ k ih =>
    intro c kd hm lk ht sl res H hr W hk
    have hnd : nd ≤ 4 := H.2.2.2.1
    obtain ⟨x1, ex⟩ := W.1 k (by omega)
    obtain ⟨y1, ey⟩ := W.1 (k + 1) (by omega)
    obtain ⟨ex', ey'⟩ := W.2 k (by omega)
    have hmx := mb_mx_lt (d := 4) (show g k < 4 by omega) (show g (k + 1) < 4 by omega)
    by_cases rv : rev (mb_mx (g k) (g (k + 1))) = 0
    · obtain ⟨c1, kd1, hm1, lk1, ht1, sl1, aX, aY, H1, E1, hA, cX, cY⟩ := mb_carry H hr y1 x1 ht
      have hc1 : c1 ≤ 32 := Nat.le_trans H1.1 H1.2.1
      rcases hA with ⟨r1, rfl⟩ | ⟨rfl, rfl⟩
      · obtain ⟨c', kd', hm', lk', ht', sl', rX, rY, flt', H2, E2, A2, iX, iY⟩ := ih c1 kd1 hm1 lk1 ht1 sl1 aY H1 r1 (mb_W_dn W) (by omega)
        refine ⟨c', kd', hm', lk', ht', sl', rX, rY, flt', H2, mb_E_tr E1 E2, A2, ?_, ?_⟩
        · intro p par st pcs regs plen pop px py post K m h
          obtain ⟨m, rfl⟩ : ∃ q, m = q + 1 := ⟨m - 1, by omega⟩
          exact mx_bk (by omega) (by omega) (by omega) ex ey rv (fun post' K' => cX p par rev st pcs regs plen pop px py path post' K') (mb_ref_le r1 hc1).1 (iX p par st pcs regs plen pop px py post K m (by omega))
        · intro p par regs pop px py plen pcs st post K m h
          obtain ⟨m, rfl⟩ : ∃ q, m = q + 1 := ⟨m - 1, by omega⟩
          exact my_b342 (by omega) (by omega) (by omega) ex' ey' (my_b379 (by omega) rv (my_b409 (fun post' K' => cY p 0 par rev regs pop px py plen pcs st hx he post' K') (mb_ref_le r1 hc1).2 (iY p par regs pop px py plen pcs st post K m (by omega))))
      · refine ⟨c1, kd1, hm1, lk1, ht1, sl1, -4, -1, 3, H1, E1, Or.inr ⟨3, by omega, by omega, rfl, by decide⟩, ?_, ?_⟩
        · intro p par st pcs regs plen pop px py post K m h
          obtain ⟨m, rfl⟩ : ∃ q, m = q + 1 := ⟨m - 1, by omega⟩
          exact mx_bkf (by omega) (by omega) (by omega) ex ey rv (fun post' K' => cX p par rev st pcs regs plen pop px py path post' K') K
        · intro p par regs pop px py plen pcs st post K m h
          obtain ⟨m, rfl⟩ : ∃ q, m = q + 1 := ⟨m - 1, by omega⟩
          exact my_b342 (by omega) (by omega) (by omega) ex' ey' (my_b379 (by omega) rv (my_b409f (fun post' K' => cY p 0 par rev regs pop px py plen pcs st hx he post' K') K))
    · refine ⟨c, kd, hm, lk, ht, sl, -3, -1, 2, H, mb_E_rf, Or.inr ⟨2, by omega, by omega, rfl, by decide⟩, ?_, ?_⟩
      · intro p par st pcs regs plen pop px py post K m h
        obtain ⟨m, rfl⟩ : ∃ q, m = q + 1 := ⟨m - 1, by omega⟩
        exact mx_bkr (by omega) (by omega) (by omega) ex ey rv K
      · intro p par regs pop px py plen pcs st post K m h
        obtain ⟨m, rfl⟩ : ∃ q, m = q + 1 := ⟨m - 1, by omega⟩
        exact my_b342 (by omega) (by omega) (by omega) ex' ey' (my_b379r (by omega) rv K)
end
end
section
section
variable {n p nd c c1 : Nat} {par rev st pcs regs plen pop px py kd hm lk ht sl path hx he kd1 hm1 lk1 ht1 sl1 : Nat → Int32} {flt aX aY res op arg : Int32}
theorem mb_ev_ap {sl : Nat → Int32} {i : Nat} : mb_ev sl i = sl (i * 2) := rfl
theorem mb_od_ap {sl : Nat → Int32} {i : Nat} : mb_od sl i = sl (i * 2 + 1) := rfl
/-- what a box or a revoker does -/
theorem mb_act (H : mb_H n nd c kd hm lk sl) {cur : Nat} (hcur : cur < c) (k3 : ¬ kd cur = 3) (harg : mb_ref c arg) (hop : op = 2 ∨ op = 3 ∨ op = 4 ∨ op = 5 ∨ op = 6) (rev ht : Nat → Int32) :
    ∃ (rev' sl' : Nat → Int32) (res : Int32), mb_V nd rev rev' ∧ mb_H n nd c kd hm lk sl' ∧ mb_ref c res ∧
      (∀ (path : Nat → Int32) (p : Nat) (par st pcs regs plen pop px py : Nat → Int32) (post : Int32 → SX → Prop), post res (nI n, nI p, nI nd, nI c, par, rev', st, pcs, regs, plen, pop, px, py, kd, hm, lk, (upd ht cur (ht cur + 1)), sl', path) → wpX_act post (nI n, nI p, nI nd, nI c, par, rev, st, pcs, regs, plen, pop, px, py, kd, hm, lk, ht, sl, path) (nI cur) op arg) ∧
      (∀ (hx he : Nat → Int32) (p : Nat) (par regs pop px py plen pcs st : Nat → Int32) (post : Int32 → SY → Prop) (x7 : Int32), (∃ m, wY_invoke_342 post m res (x7 - 1) (nI n) (nI p) (nI nd) (nI c) 0 par rev' regs pop px py plen pcs st kd hm lk (mb_ev sl') (mb_od sl') (upd ht cur (ht cur + 1)) hx he) → wY_invoke_212 post op arg (nI cur) x7 (nI n) (nI p) (nI nd) (nI c) 0 par rev regs pop px py plen pcs st kd hm lk (mb_ev sl) (mb_od sl) ht hx he) := by
  have hn : n ≤ 32 := H.2.1
  have hcn : c ≤ n := H.1
  have hnd : nd ≤ 4 := H.2.2.2.1
  have o := mb_H_ob H hcur
  rcases o.2 with ⟨kk, lkk⟩ | ⟨kk, l, l1, l2, el⟩ | ⟨kk, -⟩
  · have s0 := H.2.2.2.2.2 (cur * 2) (by omega)
    have s1 := H.2.2.2.2.2 (cur * 2 + 1) (by omega)
    rcases hop with rfl | rfl | rfl | rfl | rfl
    · refine ⟨rev, sl, sl (cur * 2), fun _ _ => rfl, H, s0, ?_, ?_⟩
      · intro path p par st pcs regs plen pop px py post K
        simp (disch := omega) only [wpX_act, nI_clamp, vp_in_nI, nI_1, nI_add, mb_lt_t, mb_lt_f, mb_le_t, mb_le_f, mb_ne, mb_lt0, mb_le0, mb_m1, mb_m1l, mb_m1g, mb_m1n, mb_x2, mb_x4, mb_x32, mb_lt_4, mb_le_4, mb_ge_4, mb_gt_4, mb_le_3, mb_gt_3, mb_le_7, mb_gt_7, mb_lt_32, mb_ge_32, mb_lt_128, mb_ge_128, mb_ge_1, mb_lt_1, mb_ge_1f, mb_lt_1t, not_true, not_false_iff, false_implies, true_implies, true_and, and_true, forall_eq, forall_const, eq_self, mb_e10, mb_e01, mb_e02, mb_e03, mb_e04, mb_e05, mb_e06, mb_e07, mb_l00, mb_l02, mb_g50, mb_g60, mb_e10, mb_e12, mb_e13, mb_e14, mb_e15, mb_e16, mb_e17, mb_l10, mb_l12, mb_g51, mb_g61, mb_e20, mb_e21, mb_e23, mb_e24, mb_e25, mb_e26, mb_e27, mb_l20, mb_l22, mb_g52, mb_g62, mb_e30, mb_e31, mb_e32, mb_e34, mb_e35, mb_e36, mb_e37, mb_l30, mb_l32, mb_g53, mb_g63, mb_e40, mb_e41, mb_e42, mb_e43, mb_e45, mb_e46, mb_e47, mb_l40, mb_l42, mb_g54, mb_g64, mb_e50, mb_e51, mb_e52, mb_e53, mb_e54, mb_e56, mb_e57, mb_l50, mb_l52, mb_g55, mb_g65, mb_e60, mb_e61, mb_e62, mb_e63, mb_e64, mb_e65, mb_e67, mb_l60, mb_l62, mb_g56, mb_g66, mb_e70, mb_e71, mb_e72, mb_e73, mb_e74, mb_e75, mb_e76, mb_l70, mb_l72, mb_g57, mb_g67, kk]
        exact K
      · intro hx he p par regs pop px py plen pcs st post x7 K
        simp (disch := omega) only [wY_invoke_212, wY_invoke_251, wY_invoke_265, wY_invoke_279, nI_clamp, vp_in_nI, nI_1, nI_add, mb_lt_t, mb_lt_f, mb_le_t, mb_le_f, mb_ne, mb_lt0, mb_le0, mb_m1, mb_m1l, mb_m1g, mb_m1n, mb_x2, mb_x4, mb_x32, mb_lt_4, mb_le_4, mb_ge_4, mb_gt_4, mb_le_3, mb_gt_3, mb_le_7, mb_gt_7, mb_lt_32, mb_ge_32, mb_lt_128, mb_ge_128, mb_ge_1, mb_lt_1, mb_ge_1f, mb_lt_1t, not_true, not_false_iff, false_implies, true_implies, true_and, and_true, forall_eq, forall_const, eq_self, mb_e10, mb_e01, mb_e02, mb_e03, mb_e04, mb_e05, mb_e06, mb_e07, mb_l00, mb_l02, mb_g50, mb_g60, mb_e10, mb_e12, mb_e13, mb_e14, mb_e15, mb_e16, mb_e17, mb_l10, mb_l12, mb_g51, mb_g61, mb_e20, mb_e21, mb_e23, mb_e24, mb_e25, mb_e26, mb_e27, mb_l20, mb_l22, mb_g52, mb_g62, mb_e30, mb_e31, mb_e32, mb_e34, mb_e35, mb_e36, mb_e37, mb_l30, mb_l32, mb_g53, mb_g63, mb_e40, mb_e41, mb_e42, mb_e43, mb_e45, mb_e46, mb_e47, mb_l40, mb_l42, mb_g54, mb_g64, mb_e50, mb_e51, mb_e52, mb_e53, mb_e54, mb_e56, mb_e57, mb_l50, mb_l52, mb_g55, mb_g65, mb_e60, mb_e61, mb_e62, mb_e63, mb_e64, mb_e65, mb_e67, mb_l60, mb_l62, mb_g56, mb_g66, mb_e70, mb_e71, mb_e72, mb_e73, mb_e74, mb_e75, mb_e76, mb_l70, mb_l72, mb_g57, mb_g67, kk, mb_ev_ap, mb_od_ap]
        exact K
    · refine ⟨rev, sl, sl (cur * 2 + 1), fun _ _ => rfl, H, s1, ?_, ?_⟩
      · intro path p par st pcs regs plen pop px py post K
        simp (disch := omega) only [wpX_act, nI_clamp, vp_in_nI, nI_1, nI_add, mb_lt_t, mb_lt_f, mb_le_t, mb_le_f, mb_ne, mb_lt0, mb_le0, mb_m1, mb_m1l, mb_m1g, mb_m1n, mb_x2, mb_x4, mb_x32, mb_lt_4, mb_le_4, mb_ge_4, mb_gt_4, mb_le_3, mb_gt_3, mb_le_7, mb_gt_7, mb_lt_32, mb_ge_32, mb_lt_128, mb_ge_128, mb_ge_1, mb_lt_1, mb_ge_1f, mb_lt_1t, not_true, not_false_iff, false_implies, true_implies, true_and, and_true, forall_eq, forall_const, eq_self, mb_e10, mb_e01, mb_e02, mb_e03, mb_e04, mb_e05, mb_e06, mb_e07, mb_l00, mb_l02, mb_g50, mb_g60, mb_e10, mb_e12, mb_e13, mb_e14, mb_e15, mb_e16, mb_e17, mb_l10, mb_l12, mb_g51, mb_g61, mb_e20, mb_e21, mb_e23, mb_e24, mb_e25, mb_e26, mb_e27, mb_l20, mb_l22, mb_g52, mb_g62, mb_e30, mb_e31, mb_e32, mb_e34, mb_e35, mb_e36, mb_e37, mb_l30, mb_l32, mb_g53, mb_g63, mb_e40, mb_e41, mb_e42, mb_e43, mb_e45, mb_e46, mb_e47, mb_l40, mb_l42, mb_g54, mb_g64, mb_e50, mb_e51, mb_e52, mb_e53, mb_e54, mb_e56, mb_e57, mb_l50, mb_l52, mb_g55, mb_g65, mb_e60, mb_e61, mb_e62, mb_e63, mb_e64, mb_e65, mb_e67, mb_l60, mb_l62, mb_g56, mb_g66, mb_e70, mb_e71, mb_e72, mb_e73, mb_e74, mb_e75, mb_e76, mb_l70, mb_l72, mb_g57, mb_g67, kk]
        exact K
      · intro hx he p par regs pop px py plen pcs st post x7 K
        simp (disch := omega) only [wY_invoke_212, wY_invoke_251, wY_invoke_265, wY_invoke_279, nI_clamp, vp_in_nI, nI_1, nI_add, mb_lt_t, mb_lt_f, mb_le_t, mb_le_f, mb_ne, mb_lt0, mb_le0, mb_m1, mb_m1l, mb_m1g, mb_m1n, mb_x2, mb_x4, mb_x32, mb_lt_4, mb_le_4, mb_ge_4, mb_gt_4, mb_le_3, mb_gt_3, mb_le_7, mb_gt_7, mb_lt_32, mb_ge_32, mb_lt_128, mb_ge_128, mb_ge_1, mb_lt_1, mb_ge_1f, mb_lt_1t, not_true, not_false_iff, false_implies, true_implies, true_and, and_true, forall_eq, forall_const, eq_self, mb_e10, mb_e01, mb_e02, mb_e03, mb_e04, mb_e05, mb_e06, mb_e07, mb_l00, mb_l02, mb_g50, mb_g60, mb_e10, mb_e12, mb_e13, mb_e14, mb_e15, mb_e16, mb_e17, mb_l10, mb_l12, mb_g51, mb_g61, mb_e20, mb_e21, mb_e23, mb_e24, mb_e25, mb_e26, mb_e27, mb_l20, mb_l22, mb_g52, mb_g62, mb_e30, mb_e31, mb_e32, mb_e34, mb_e35, mb_e36, mb_e37, mb_l30, mb_l32, mb_g53, mb_g63, mb_e40, mb_e41, mb_e42, mb_e43, mb_e45, mb_e46, mb_e47, mb_l40, mb_l42, mb_g54, mb_g64, mb_e50, mb_e51, mb_e52, mb_e53, mb_e54, mb_e56, mb_e57, mb_l50, mb_l52, mb_g55, mb_g65, mb_e60, mb_e61, mb_e62, mb_e63, mb_e64, mb_e65, mb_e67, mb_l60, mb_l62, mb_g56, mb_g66, mb_e70, mb_e71, mb_e72, mb_e73, mb_e74, mb_e75, mb_e76, mb_l70, mb_l72, mb_g57, mb_g67, kk, mb_ev_ap, mb_od_ap]
        exact K
    · refine ⟨rev, upd sl (cur * 2) arg, -1, fun _ _ => rfl, mb_set H _ harg, Or.inl rfl, ?_, ?_⟩
      · intro path p par st pcs regs plen pop px py post K
        simp (disch := omega) only [wpX_act, nI_clamp, vp_in_nI, nI_1, nI_add, mb_lt_t, mb_lt_f, mb_le_t, mb_le_f, mb_ne, mb_lt0, mb_le0, mb_m1, mb_m1l, mb_m1g, mb_m1n, mb_x2, mb_x4, mb_x32, mb_lt_4, mb_le_4, mb_ge_4, mb_gt_4, mb_le_3, mb_gt_3, mb_le_7, mb_gt_7, mb_lt_32, mb_ge_32, mb_lt_128, mb_ge_128, mb_ge_1, mb_lt_1, mb_ge_1f, mb_lt_1t, not_true, not_false_iff, false_implies, true_implies, true_and, and_true, forall_eq, forall_const, eq_self, mb_e10, mb_e01, mb_e02, mb_e03, mb_e04, mb_e05, mb_e06, mb_e07, mb_l00, mb_l02, mb_g50, mb_g60, mb_e10, mb_e12, mb_e13, mb_e14, mb_e15, mb_e16, mb_e17, mb_l10, mb_l12, mb_g51, mb_g61, mb_e20, mb_e21, mb_e23, mb_e24, mb_e25, mb_e26, mb_e27, mb_l20, mb_l22, mb_g52, mb_g62, mb_e30, mb_e31, mb_e32, mb_e34, mb_e35, mb_e36, mb_e37, mb_l30, mb_l32, mb_g53, mb_g63, mb_e40, mb_e41, mb_e42, mb_e43, mb_e45, mb_e46, mb_e47, mb_l40, mb_l42, mb_g54, mb_g64, mb_e50, mb_e51, mb_e52, mb_e53, mb_e54, mb_e56, mb_e57, mb_l50, mb_l52, mb_g55, mb_g65, mb_e60, mb_e61, mb_e62, mb_e63, mb_e64, mb_e65, mb_e67, mb_l60, mb_l62, mb_g56, mb_g66, mb_e70, mb_e71, mb_e72, mb_e73, mb_e74, mb_e75, mb_e76, mb_l70, mb_l72, mb_g57, mb_g67, kk]
        exact K
      · intro hx he p par regs pop px py plen pcs st post x7 K
        simp only [mb_ev_e, mb_od_e] at K
        simp (disch := omega) only [wY_invoke_212, wY_invoke_251, wY_invoke_265, wY_invoke_279, nI_clamp, vp_in_nI, nI_1, nI_add, mb_lt_t, mb_lt_f, mb_le_t, mb_le_f, mb_ne, mb_lt0, mb_le0, mb_m1, mb_m1l, mb_m1g, mb_m1n, mb_x2, mb_x4, mb_x32, mb_lt_4, mb_le_4, mb_ge_4, mb_gt_4, mb_le_3, mb_gt_3, mb_le_7, mb_gt_7, mb_lt_32, mb_ge_32, mb_lt_128, mb_ge_128, mb_ge_1, mb_lt_1, mb_ge_1f, mb_lt_1t, not_true, not_false_iff, false_implies, true_implies, true_and, and_true, forall_eq, forall_const, eq_self, mb_e10, mb_e01, mb_e02, mb_e03, mb_e04, mb_e05, mb_e06, mb_e07, mb_l00, mb_l02, mb_g50, mb_g60, mb_e10, mb_e12, mb_e13, mb_e14, mb_e15, mb_e16, mb_e17, mb_l10, mb_l12, mb_g51, mb_g61, mb_e20, mb_e21, mb_e23, mb_e24, mb_e25, mb_e26, mb_e27, mb_l20, mb_l22, mb_g52, mb_g62, mb_e30, mb_e31, mb_e32, mb_e34, mb_e35, mb_e36, mb_e37, mb_l30, mb_l32, mb_g53, mb_g63, mb_e40, mb_e41, mb_e42, mb_e43, mb_e45, mb_e46, mb_e47, mb_l40, mb_l42, mb_g54, mb_g64, mb_e50, mb_e51, mb_e52, mb_e53, mb_e54, mb_e56, mb_e57, mb_l50, mb_l52, mb_g55, mb_g65, mb_e60, mb_e61, mb_e62, mb_e63, mb_e64, mb_e65, mb_e67, mb_l60, mb_l62, mb_g56, mb_g66, mb_e70, mb_e71, mb_e72, mb_e73, mb_e74, mb_e75, mb_e76, mb_l70, mb_l72, mb_g57, mb_g67, kk, mb_ev_ap, mb_od_ap]
        exact K
    · refine ⟨rev, upd sl (cur * 2 + 1) arg, -1, fun _ _ => rfl, mb_set H _ harg, Or.inl rfl, ?_, ?_⟩
      · intro path p par st pcs regs plen pop px py post K
        simp (disch := omega) only [wpX_act, nI_clamp, vp_in_nI, nI_1, nI_add, mb_lt_t, mb_lt_f, mb_le_t, mb_le_f, mb_ne, mb_lt0, mb_le0, mb_m1, mb_m1l, mb_m1g, mb_m1n, mb_x2, mb_x4, mb_x32, mb_lt_4, mb_le_4, mb_ge_4, mb_gt_4, mb_le_3, mb_gt_3, mb_le_7, mb_gt_7, mb_lt_32, mb_ge_32, mb_lt_128, mb_ge_128, mb_ge_1, mb_lt_1, mb_ge_1f, mb_lt_1t, not_true, not_false_iff, false_implies, true_implies, true_and, and_true, forall_eq, forall_const, eq_self, mb_e10, mb_e01, mb_e02, mb_e03, mb_e04, mb_e05, mb_e06, mb_e07, mb_l00, mb_l02, mb_g50, mb_g60, mb_e10, mb_e12, mb_e13, mb_e14, mb_e15, mb_e16, mb_e17, mb_l10, mb_l12, mb_g51, mb_g61, mb_e20, mb_e21, mb_e23, mb_e24, mb_e25, mb_e26, mb_e27, mb_l20, mb_l22, mb_g52, mb_g62, mb_e30, mb_e31, mb_e32, mb_e34, mb_e35, mb_e36, mb_e37, mb_l30, mb_l32, mb_g53, mb_g63, mb_e40, mb_e41, mb_e42, mb_e43, mb_e45, mb_e46, mb_e47, mb_l40, mb_l42, mb_g54, mb_g64, mb_e50, mb_e51, mb_e52, mb_e53, mb_e54, mb_e56, mb_e57, mb_l50, mb_l52, mb_g55, mb_g65, mb_e60, mb_e61, mb_e62, mb_e63, mb_e64, mb_e65, mb_e67, mb_l60, mb_l62, mb_g56, mb_g66, mb_e70, mb_e71, mb_e72, mb_e73, mb_e74, mb_e75, mb_e76, mb_l70, mb_l72, mb_g57, mb_g67, kk]
        exact K
      · intro hx he p par regs pop px py plen pcs st post x7 K
        simp only [mb_ev_o, mb_od_o] at K
        simp (disch := omega) only [wY_invoke_212, wY_invoke_251, wY_invoke_265, wY_invoke_279, nI_clamp, vp_in_nI, nI_1, nI_add, mb_lt_t, mb_lt_f, mb_le_t, mb_le_f, mb_ne, mb_lt0, mb_le0, mb_m1, mb_m1l, mb_m1g, mb_m1n, mb_x2, mb_x4, mb_x32, mb_lt_4, mb_le_4, mb_ge_4, mb_gt_4, mb_le_3, mb_gt_3, mb_le_7, mb_gt_7, mb_lt_32, mb_ge_32, mb_lt_128, mb_ge_128, mb_ge_1, mb_lt_1, mb_ge_1f, mb_lt_1t, not_true, not_false_iff, false_implies, true_implies, true_and, and_true, forall_eq, forall_const, eq_self, mb_e10, mb_e01, mb_e02, mb_e03, mb_e04, mb_e05, mb_e06, mb_e07, mb_l00, mb_l02, mb_g50, mb_g60, mb_e10, mb_e12, mb_e13, mb_e14, mb_e15, mb_e16, mb_e17, mb_l10, mb_l12, mb_g51, mb_g61, mb_e20, mb_e21, mb_e23, mb_e24, mb_e25, mb_e26, mb_e27, mb_l20, mb_l22, mb_g52, mb_g62, mb_e30, mb_e31, mb_e32, mb_e34, mb_e35, mb_e36, mb_e37, mb_l30, mb_l32, mb_g53, mb_g63, mb_e40, mb_e41, mb_e42, mb_e43, mb_e45, mb_e46, mb_e47, mb_l40, mb_l42, mb_g54, mb_g64, mb_e50, mb_e51, mb_e52, mb_e53, mb_e54, mb_e56, mb_e57, mb_l50, mb_l52, mb_g55, mb_g65, mb_e60, mb_e61, mb_e62, mb_e63, mb_e64, mb_e65, mb_e67, mb_l60, mb_l62, mb_g56, mb_g66, mb_e70, mb_e71, mb_e72, mb_e73, mb_e74, mb_e75, mb_e76, mb_l70, mb_l72, mb_g57, mb_g67, kk, mb_ev_ap, mb_od_ap]
        exact K
    · refine ⟨rev, sl, -1, fun _ _ => rfl, H, Or.inl rfl, ?_, ?_⟩
      · intro path p par st pcs regs plen pop px py post K
        simp (disch := omega) only [wpX_act, nI_clamp, vp_in_nI, nI_1, nI_add, mb_lt_t, mb_lt_f, mb_le_t, mb_le_f, mb_ne, mb_lt0, mb_le0, mb_m1, mb_m1l, mb_m1g, mb_m1n, mb_x2, mb_x4, mb_x32, mb_lt_4, mb_le_4, mb_ge_4, mb_gt_4, mb_le_3, mb_gt_3, mb_le_7, mb_gt_7, mb_lt_32, mb_ge_32, mb_lt_128, mb_ge_128, mb_ge_1, mb_lt_1, mb_ge_1f, mb_lt_1t, not_true, not_false_iff, false_implies, true_implies, true_and, and_true, forall_eq, forall_const, eq_self, mb_e10, mb_e01, mb_e02, mb_e03, mb_e04, mb_e05, mb_e06, mb_e07, mb_l00, mb_l02, mb_g50, mb_g60, mb_e10, mb_e12, mb_e13, mb_e14, mb_e15, mb_e16, mb_e17, mb_l10, mb_l12, mb_g51, mb_g61, mb_e20, mb_e21, mb_e23, mb_e24, mb_e25, mb_e26, mb_e27, mb_l20, mb_l22, mb_g52, mb_g62, mb_e30, mb_e31, mb_e32, mb_e34, mb_e35, mb_e36, mb_e37, mb_l30, mb_l32, mb_g53, mb_g63, mb_e40, mb_e41, mb_e42, mb_e43, mb_e45, mb_e46, mb_e47, mb_l40, mb_l42, mb_g54, mb_g64, mb_e50, mb_e51, mb_e52, mb_e53, mb_e54, mb_e56, mb_e57, mb_l50, mb_l52, mb_g55, mb_g65, mb_e60, mb_e61, mb_e62, mb_e63, mb_e64, mb_e65, mb_e67, mb_l60, mb_l62, mb_g56, mb_g66, mb_e70, mb_e71, mb_e72, mb_e73, mb_e74, mb_e75, mb_e76, mb_l70, mb_l72, mb_g57, mb_g67, kk]
        exact K
      · intro hx he p par regs pop px py plen pcs st post x7 K
        simp (disch := omega) only [wY_invoke_212, wY_invoke_251, wY_invoke_265, wY_invoke_279, nI_clamp, vp_in_nI, nI_1, nI_add, mb_lt_t, mb_lt_f, mb_le_t, mb_le_f, mb_ne, mb_lt0, mb_le0, mb_m1, mb_m1l, mb_m1g, mb_m1n, mb_x2, mb_x4, mb_x32, mb_lt_4, mb_le_4, mb_ge_4, mb_gt_4, mb_le_3, mb_gt_3, mb_le_7, mb_gt_7, mb_lt_32, mb_ge_32, mb_lt_128, mb_ge_128, mb_ge_1, mb_lt_1, mb_ge_1f, mb_lt_1t, not_true, not_false_iff, false_implies, true_implies, true_and, and_true, forall_eq, forall_const, eq_self, mb_e10, mb_e01, mb_e02, mb_e03, mb_e04, mb_e05, mb_e06, mb_e07, mb_l00, mb_l02, mb_g50, mb_g60, mb_e10, mb_e12, mb_e13, mb_e14, mb_e15, mb_e16, mb_e17, mb_l10, mb_l12, mb_g51, mb_g61, mb_e20, mb_e21, mb_e23, mb_e24, mb_e25, mb_e26, mb_e27, mb_l20, mb_l22, mb_g52, mb_g62, mb_e30, mb_e31, mb_e32, mb_e34, mb_e35, mb_e36, mb_e37, mb_l30, mb_l32, mb_g53, mb_g63, mb_e40, mb_e41, mb_e42, mb_e43, mb_e45, mb_e46, mb_e47, mb_l40, mb_l42, mb_g54, mb_g64, mb_e50, mb_e51, mb_e52, mb_e53, mb_e54, mb_e56, mb_e57, mb_l50, mb_l52, mb_g55, mb_g65, mb_e60, mb_e61, mb_e62, mb_e63, mb_e64, mb_e65, mb_e67, mb_l60, mb_l62, mb_g56, mb_g66, mb_e70, mb_e71, mb_e72, mb_e73, mb_e74, mb_e75, mb_e76, mb_l70, mb_l72, mb_g57, mb_g67, kk, mb_ev_ap, mb_od_ap]
        exact K
  · refine ⟨upd rev l (vp_nar .boolean 1), sl, -1, fun i hi => pk_un (by omega), H, Or.inl rfl, ?_, ?_⟩
    · intro path p par st pcs regs plen pop px py post K
      simp (disch := omega) only [wpX_act, nI_clamp, vp_in_nI, nI_1, nI_add, mb_lt_t, mb_lt_f, mb_le_t, mb_le_f, mb_ne, mb_lt0, mb_le0, mb_m1, mb_m1l, mb_m1g, mb_m1n, mb_x2, mb_x4, mb_x32, mb_lt_4, mb_le_4, mb_ge_4, mb_gt_4, mb_le_3, mb_gt_3, mb_le_7, mb_gt_7, mb_lt_32, mb_ge_32, mb_lt_128, mb_ge_128, mb_ge_1, mb_lt_1, mb_ge_1f, mb_lt_1t, not_true, not_false_iff, false_implies, true_implies, true_and, and_true, forall_eq, forall_const, eq_self, mb_e10, mb_e01, mb_e02, mb_e03, mb_e04, mb_e05, mb_e06, mb_e07, mb_l00, mb_l02, mb_g50, mb_g60, mb_e10, mb_e12, mb_e13, mb_e14, mb_e15, mb_e16, mb_e17, mb_l10, mb_l12, mb_g51, mb_g61, mb_e20, mb_e21, mb_e23, mb_e24, mb_e25, mb_e26, mb_e27, mb_l20, mb_l22, mb_g52, mb_g62, mb_e30, mb_e31, mb_e32, mb_e34, mb_e35, mb_e36, mb_e37, mb_l30, mb_l32, mb_g53, mb_g63, mb_e40, mb_e41, mb_e42, mb_e43, mb_e45, mb_e46, mb_e47, mb_l40, mb_l42, mb_g54, mb_g64, mb_e50, mb_e51, mb_e52, mb_e53, mb_e54, mb_e56, mb_e57, mb_l50, mb_l52, mb_g55, mb_g65, mb_e60, mb_e61, mb_e62, mb_e63, mb_e64, mb_e65, mb_e67, mb_l60, mb_l62, mb_g56, mb_g66, mb_e70, mb_e71, mb_e72, mb_e73, mb_e74, mb_e75, mb_e76, mb_l70, mb_l72, mb_g57, mb_g67, kk, el]
      exact K
    · intro hx he p par regs pop px py plen pcs st post x7 K
      simp (disch := omega) only [wY_invoke_212, nI_clamp, vp_in_nI, nI_1, nI_add, mb_lt_t, mb_lt_f, mb_le_t, mb_le_f, mb_ne, mb_lt0, mb_le0, mb_m1, mb_m1l, mb_m1g, mb_m1n, mb_x2, mb_x4, mb_x32, mb_lt_4, mb_le_4, mb_ge_4, mb_gt_4, mb_le_3, mb_gt_3, mb_le_7, mb_gt_7, mb_lt_32, mb_ge_32, mb_lt_128, mb_ge_128, mb_ge_1, mb_lt_1, mb_ge_1f, mb_lt_1t, not_true, not_false_iff, false_implies, true_implies, true_and, and_true, forall_eq, forall_const, eq_self, mb_e10, mb_e01, mb_e02, mb_e03, mb_e04, mb_e05, mb_e06, mb_e07, mb_l00, mb_l02, mb_g50, mb_g60, mb_e10, mb_e12, mb_e13, mb_e14, mb_e15, mb_e16, mb_e17, mb_l10, mb_l12, mb_g51, mb_g61, mb_e20, mb_e21, mb_e23, mb_e24, mb_e25, mb_e26, mb_e27, mb_l20, mb_l22, mb_g52, mb_g62, mb_e30, mb_e31, mb_e32, mb_e34, mb_e35, mb_e36, mb_e37, mb_l30, mb_l32, mb_g53, mb_g63, mb_e40, mb_e41, mb_e42, mb_e43, mb_e45, mb_e46, mb_e47, mb_l40, mb_l42, mb_g54, mb_g64, mb_e50, mb_e51, mb_e52, mb_e53, mb_e54, mb_e56, mb_e57, mb_l50, mb_l52, mb_g55, mb_g65, mb_e60, mb_e61, mb_e62, mb_e63, mb_e64, mb_e65, mb_e67, mb_l60, mb_l62, mb_g56, mb_g66, mb_e70, mb_e71, mb_e72, mb_e73, mb_e74, mb_e75, mb_e76, mb_l70, mb_l72, mb_g57, mb_g67, kk, el]
      exact K
  · exact absurd kk k3
theorem mx_igo {post : Int32 → SX → Prop} {m cur t h e k x : Nat} (hcur : cur < 32) (h1 : t < 32) (h2 : h < 4) (h3 : e < 4) (hk : k < 32)
    (k3 : kd cur = 3) (et : lk cur = nI t) (ee : hm t = nI e) (eh : hm cur = nI h) (rv : rev (mb_mx h e) = 0) (ex : path k = nI x)
    (cX : ∀ post' : Int32 → SX → Prop, post' aX (nI n, nI p, nI nd, nI c1, par, rev, st, pcs, regs, plen, pop, px, py, kd1, hm1, lk1, ht1, sl1, path) → wpX_carry post' (nI n, nI p, nI nd, nI c, par, rev, st, pcs, regs, plen, pop, px, py, kd, hm, lk, (upd ht cur (ht cur + 1)), sl, path) arg (nI x) (nI e))
    (nf : -1 ≤ aX) (K : wX_invoke_25 post op m (nI t) aX (nI (k + 1)) (nI n) (nI p) (nI nd) (nI c1) par rev st pcs regs plen pop px py kd1 hm1 lk1 ht1 sl1 (upd path (k + 1) (nI e))) : wX_invoke_25 post op (m + 1) (nI cur) arg (nI k) (nI n) (nI p) (nI nd) (nI c) par rev st pcs regs plen pop px py kd hm lk ht sl path := by
  have hmx := mb_mx_lt (d := 4) h2 h3
  simp (disch := omega) only [wX_invoke_25, mx_mbE, nI_clamp, vp_in_nI, nI_1, nI_add, mb_lt_t, mb_lt_f, mb_le_t, mb_le_f, mb_ne, mb_lt0, mb_le0, mb_m1, mb_m1l, mb_m1g, mb_m1n, mb_x2, mb_x4, mb_x32, mb_lt_4, mb_le_4, mb_ge_4, mb_gt_4, mb_le_3, mb_gt_3, mb_le_7, mb_gt_7, mb_lt_32, mb_ge_32, mb_lt_128, mb_ge_128, mb_ge_1, mb_lt_1, mb_ge_1f, mb_lt_1t, not_true, not_false_iff, false_implies, true_implies, true_and, and_true, forall_eq, forall_const, eq_self, mb_e10, k3, et, ee, eh, rv, ex]
  refine cX _ ?_
  simp (disch := omega) only [wpX_isFault, nI_clamp, vp_in_nI, nI_1, nI_add, mb_lt_t, mb_lt_f, mb_le_t, mb_le_f, mb_ne, mb_lt0, mb_le0, mb_m1, mb_m1l, mb_m1g, mb_m1n, mb_x2, mb_x4, mb_x32, mb_lt_4, mb_le_4, mb_ge_4, mb_gt_4, mb_le_3, mb_gt_3, mb_le_7, mb_gt_7, mb_lt_32, mb_ge_32, mb_lt_128, mb_ge_128, mb_ge_1, mb_lt_1, mb_ge_1f, mb_lt_1t, not_true, not_false_iff, false_implies, true_implies, true_and, and_true, forall_eq, forall_const, eq_self, mb_e10, nf]
  exact K
theorem mx_ifl {post : Int32 → SX → Prop} {m cur t h e k x : Nat} (hcur : cur < 32) (h1 : t < 32) (h2 : h < 4) (h3 : e < 4) (hk : k < 32)
    (k3 : kd cur = 3) (et : lk cur = nI t) (ee : hm t = nI e) (eh : hm cur = nI h) (rv : rev (mb_mx h e) = 0) (ex : path k = nI x)
    (cX : ∀ post' : Int32 → SX → Prop, post' (-4) (nI n, nI p, nI nd, nI c1, par, rev, st, pcs, regs, plen, pop, px, py, kd1, hm1, lk1, ht1, sl1, path) → wpX_carry post' (nI n, nI p, nI nd, nI c, par, rev, st, pcs, regs, plen, pop, px, py, kd, hm, lk, (upd ht cur (ht cur + 1)), sl, path) arg (nI x) (nI e))
    (K : post (-4) (nI n, nI p, nI nd, nI c1, par, rev, st, pcs, regs, plen, pop, px, py, kd1, hm1, lk1, ht1, sl1, path)) : wX_invoke_25 post op (m + 1) (nI cur) arg (nI k) (nI n) (nI p) (nI nd) (nI c) par rev st pcs regs plen pop px py kd hm lk ht sl path := by
  have hmx := mb_mx_lt (d := 4) h2 h3
  have nf : ¬ ((-1 : Int32) ≤ -4) := by decide
  simp (disch := omega) only [wX_invoke_25, mx_mbE, nI_clamp, vp_in_nI, nI_1, nI_add, mb_lt_t, mb_lt_f, mb_le_t, mb_le_f, mb_ne, mb_lt0, mb_le0, mb_m1, mb_m1l, mb_m1g, mb_m1n, mb_x2, mb_x4, mb_x32, mb_lt_4, mb_le_4, mb_ge_4, mb_gt_4, mb_le_3, mb_gt_3, mb_le_7, mb_gt_7, mb_lt_32, mb_ge_32, mb_lt_128, mb_ge_128, mb_ge_1, mb_lt_1, mb_ge_1f, mb_lt_1t, not_true, not_false_iff, false_implies, true_implies, true_and, and_true, forall_eq, forall_const, eq_self, mb_e10, k3, et, ee, eh, rv, ex]
  refine cX _ ?_
  simp (disch := omega) only [wpX_isFault, nI_clamp, vp_in_nI, nI_1, nI_add, mb_lt_t, mb_lt_f, mb_le_t, mb_le_f, mb_ne, mb_lt0, mb_le0, mb_m1, mb_m1l, mb_m1g, mb_m1n, mb_x2, mb_x4, mb_x32, mb_lt_4, mb_le_4, mb_ge_4, mb_gt_4, mb_le_3, mb_gt_3, mb_le_7, mb_gt_7, mb_lt_32, mb_ge_32, mb_lt_128, mb_ge_128, mb_ge_1, mb_lt_1, mb_ge_1f, mb_lt_1t, not_true, not_false_iff, false_implies, true_implies, true_and, and_true, forall_eq, forall_const, eq_self, mb_e10, nf]
  exact K
theorem mx_irv {post : Int32 → SX → Prop} {m cur t h e k : Nat} (hcur : cur < 32) (h1 : t < 32) (h2 : h < 4) (h3 : e < 4) (hk : k < 32)
    (k3 : kd cur = 3) (et : lk cur = nI t) (ee : hm t = nI e) (eh : hm cur = nI h) (rv : ¬ rev (mb_mx h e) = 0)
    (K : post (-3) (nI n, nI p, nI nd, nI c, par, rev, st, pcs, regs, plen, pop, px, py, kd, hm, lk, ht, sl, path)) : wX_invoke_25 post op (m + 1) (nI cur) arg (nI k) (nI n) (nI p) (nI nd) (nI c) par rev st pcs regs plen pop px py kd hm lk ht sl path := by
  have hmx := mb_mx_lt (d := 4) h2 h3
  simp (disch := omega) only [wX_invoke_25, mx_mbE, nI_clamp, vp_in_nI, nI_1, nI_add, mb_lt_t, mb_lt_f, mb_le_t, mb_le_f, mb_ne, mb_lt0, mb_le0, mb_m1, mb_m1l, mb_m1g, mb_m1n, mb_x2, mb_x4, mb_x32, mb_lt_4, mb_le_4, mb_ge_4, mb_gt_4, mb_le_3, mb_gt_3, mb_le_7, mb_gt_7, mb_lt_32, mb_ge_32, mb_lt_128, mb_ge_128, mb_ge_1, mb_lt_1, mb_ge_1f, mb_lt_1t, not_true, not_false_iff, false_implies, true_implies, true_and, and_true, forall_eq, forall_const, eq_self, mb_e10, k3, et, ee, eh, rv]
  exact K
theorem mx_iac {post : Int32 → SX → Prop} {m cur k : Nat} (hcur : cur < 32) (hk : k < 32) (k3 : ¬ kd cur = 3)
    (K : wX_invoke_142 post op (nI cur) arg (nI k) (nI n) (nI p) (nI nd) (nI c) par rev st pcs regs plen pop px py kd hm lk ht sl path) : wX_invoke_25 post op (m + 1) (nI cur) arg (nI k) (nI n) (nI p) (nI nd) (nI c) par rev st pcs regs plen pop px py kd hm lk ht sl path := by
  simp (disch := omega) only [wX_invoke_25, nI_clamp, vp_in_nI, nI_1, nI_add, mb_lt_t, mb_lt_f, mb_le_t, mb_le_f, mb_ne, mb_lt0, mb_le0, mb_m1, mb_m1l, mb_m1g, mb_m1n, mb_x2, mb_x4, mb_x32, mb_lt_4, mb_le_4, mb_ge_4, mb_gt_4, mb_le_3, mb_gt_3, mb_le_7, mb_gt_7, mb_lt_32, mb_ge_32, mb_lt_128, mb_ge_128, mb_ge_1, mb_lt_1, mb_ge_1f, mb_lt_1t, not_true, not_false_iff, false_implies, true_implies, true_and, and_true, forall_eq, forall_const, eq_self, mb_e10, k3]
  exact K
theorem my_i113 {post : Int32 → SY → Prop} {J : Int32 → Int32 → Int32 → Int32 → Int32 → Int32 → Int32 → Int32 → Int32 → (Nat → Int32) → (Nat → Int32) → (Nat → Int32) → (Nat → Int32) → (Nat → Int32) → (Nat → Int32) → (Nat → Int32) → (Nat → Int32) → (Nat → Int32) → (Nat → Int32) → (Nat → Int32) → (Nat → Int32) → (Nat → Int32) → (Nat → Int32) → (Nat → Int32) → (Nat → Int32) → (Nat → Int32) → Prop} {x5 x6 x7 x8 x9 : Int32} {z : Nat} (hz : z < 4) (rv : rev z = 0)
    (K : wY_invoke_143 post J op arg x5 x6 x7 x8 x9 (nI n) (nI p) (nI nd) (nI c) flt par rev regs pop px py plen pcs st kd hm lk (mb_ev sl) (mb_od sl) ht hx he) : wY_invoke_113 post J op arg x5 x6 x7 x8 x9 (nI z) (nI n) (nI p) (nI nd) (nI c) flt par rev regs pop px py plen pcs st kd hm lk (mb_ev sl) (mb_od sl) ht hx he := by
  simp (disch := omega) only [wY_invoke_113, nI_clamp, vp_in_nI, nI_1, nI_add, mb_lt_t, mb_lt_f, mb_le_t, mb_le_f, mb_ne, mb_lt0, mb_le0, mb_m1, mb_m1l, mb_m1g, mb_m1n, mb_x2, mb_x4, mb_x32, mb_lt_4, mb_le_4, mb_ge_4, mb_gt_4, mb_le_3, mb_gt_3, mb_le_7, mb_gt_7, mb_lt_32, mb_ge_32, mb_lt_128, mb_ge_128, mb_ge_1, mb_lt_1, mb_ge_1f, mb_lt_1t, not_true, not_false_iff, false_implies, true_implies, true_and, and_true, forall_eq, forall_const, eq_self, mb_e10, rv]
  exact K
theorem my_i113r {post : Int32 → SY → Prop} {J : Int32 → Int32 → Int32 → Int32 → Int32 → Int32 → Int32 → Int32 → Int32 → (Nat → Int32) → (Nat → Int32) → (Nat → Int32) → (Nat → Int32) → (Nat → Int32) → (Nat → Int32) → (Nat → Int32) → (Nat → Int32) → (Nat → Int32) → (Nat → Int32) → (Nat → Int32) → (Nat → Int32) → (Nat → Int32) → (Nat → Int32) → (Nat → Int32) → (Nat → Int32) → (Nat → Int32) → Prop} {x5 x6 x7 x8 x9 : Int32} {z : Nat} (hz : z < 4) (rv : ¬ rev z = 0)
    (K : post (-1) (nI n, nI p, nI nd, nI c, 2, par, rev, regs, pop, px, py, plen, pcs, st, kd, hm, lk, mb_ev sl, mb_od sl, ht, hx, he)) : wY_invoke_113 post J op arg x5 x6 x7 x8 x9 (nI z) (nI n) (nI p) (nI nd) (nI c) flt par rev regs pop px py plen pcs st kd hm lk (mb_ev sl) (mb_od sl) ht hx he := by
  simp (disch := omega) only [wY_invoke_113, nI_clamp, vp_in_nI, nI_1, nI_add, mb_lt_t, mb_lt_f, mb_le_t, mb_le_f, mb_ne, mb_lt0, mb_le0, mb_m1, mb_m1l, mb_m1g, mb_m1n, mb_x2, mb_x4, mb_x32, mb_lt_4, mb_le_4, mb_ge_4, mb_gt_4, mb_le_3, mb_gt_3, mb_le_7, mb_gt_7, mb_lt_32, mb_ge_32, mb_lt_128, mb_ge_128, mb_ge_1, mb_lt_1, mb_ge_1f, mb_lt_1t, not_true, not_false_iff, false_implies, true_implies, true_and, and_true, forall_eq, forall_const, eq_self, mb_e10, rv]
  exact K
theorem my_i33 {post : Int32 → SY → Prop} {m cur t h e k : Nat} {x6 : Int32} (hcur : cur < 32) (h1 : t < c) (hc : c ≤ 32) (h2 : h < 4) (h3 : e < 4) (hk : k < 32)
    (k3 : kd cur = 3) (et : lk cur = nI t) (ee : hm t = nI e) (eh : hm cur = nI h)
    (K : wY_invoke_113 post (wY_invoke_33 post op m) op arg (nI cur) x6 (nI k) (nI t) (nI e) (nI (mb_mx h e)) (nI n) (nI p) (nI nd) (nI c) flt par rev regs pop px py plen pcs st kd hm lk (mb_ev sl) (mb_od sl) ht hx he) : wY_invoke_33 post op (m + 1) arg (nI cur) x6 (nI k) (nI n) (nI p) (nI nd) (nI c) flt par rev regs pop px py plen pcs st kd hm lk (mb_ev sl) (mb_od sl) ht hx he := by
  by_cases z : h ≤ e
  · have emx : mb_mx h e = e := if_neg (by omega)
    rw [emx] at K
    simp (disch := omega) only [wY_invoke_33, nI_clamp, vp_in_nI, nI_1, nI_add, mb_lt_t, mb_lt_f, mb_le_t, mb_le_f, mb_ne, mb_lt0, mb_le0, mb_m1, mb_m1l, mb_m1g, mb_m1n, mb_x2, mb_x4, mb_x32, mb_lt_4, mb_le_4, mb_ge_4, mb_gt_4, mb_le_3, mb_gt_3, mb_le_7, mb_gt_7, mb_lt_32, mb_ge_32, mb_lt_128, mb_ge_128, mb_ge_1, mb_lt_1, mb_ge_1f, mb_lt_1t, not_true, not_false_iff, false_implies, true_implies, true_and, and_true, forall_eq, forall_const, eq_self, mb_e10, k3, et, ee, eh]
    exact K
  · have emx : mb_mx h e = h := if_pos (by omega)
    rw [emx] at K
    simp (disch := omega) only [wY_invoke_33, nI_clamp, vp_in_nI, nI_1, nI_add, mb_lt_t, mb_lt_f, mb_le_t, mb_le_f, mb_ne, mb_lt0, mb_le0, mb_m1, mb_m1l, mb_m1g, mb_m1n, mb_x2, mb_x4, mb_x32, mb_lt_4, mb_le_4, mb_ge_4, mb_gt_4, mb_le_3, mb_gt_3, mb_le_7, mb_gt_7, mb_lt_32, mb_ge_32, mb_lt_128, mb_ge_128, mb_ge_1, mb_lt_1, mb_ge_1f, mb_lt_1t, not_true, not_false_iff, false_implies, true_implies, true_and, and_true, forall_eq, forall_const, eq_self, mb_e10, k3, et, ee, eh]
    exact K
theorem my_i143 {post : Int32 → SY → Prop} {J : Int32 → Int32 → Int32 → Int32 → Int32 → Int32 → Int32 → Int32 → Int32 → (Nat → Int32) → (Nat → Int32) → (Nat → Int32) → (Nat → Int32) → (Nat → Int32) → (Nat → Int32) → (Nat → Int32) → (Nat → Int32) → (Nat → Int32) → (Nat → Int32) → (Nat → Int32) → (Nat → Int32) → (Nat → Int32) → (Nat → Int32) → (Nat → Int32) → (Nat → Int32) → (Nat → Int32) → Prop} {x6 x8 x9 : Int32} {cur k : Nat} (hcur : cur < 32) (hk : k < 32)
    (cY : ∀ post' : Int32 → SY → Prop, post' aY (nI n, nI p, nI nd, nI c1, flt, par, rev, regs, pop, px, py, plen, pcs, st, kd1, hm1, lk1, (mb_ev sl1), (mb_od sl1), ht1, hx, he) → wpY_carry post' (nI n, nI p, nI nd, nI c, flt, par, rev, regs, pop, px, py, plen, pcs, st, kd, hm, lk, mb_ev sl, mb_od sl, (upd ht cur (ht cur + 1)), hx, he) arg x6 x9) (nf : ¬ aY = -2)
    (K : J aY x8 x9 (nI (k + 1)) (nI n) (nI p) (nI nd) (nI c1) flt par rev regs pop px py plen pcs st kd1 hm1 lk1 (mb_ev sl1) (mb_od sl1) ht1 (upd hx k x6) (upd he k x9)) : wY_invoke_143 post J op arg (nI cur) x6 (nI k) x8 x9 (nI n) (nI p) (nI nd) (nI c) flt par rev regs pop px py plen pcs st kd hm lk (mb_ev sl) (mb_od sl) ht hx he := by
  simp (disch := omega) only [wY_invoke_143, nI_clamp, vp_in_nI, nI_1, nI_add, mb_lt_t, mb_lt_f, mb_le_t, mb_le_f, mb_ne, mb_lt0, mb_le0, mb_m1, mb_m1l, mb_m1g, mb_m1n, mb_x2, mb_x4, mb_x32, mb_lt_4, mb_le_4, mb_ge_4, mb_gt_4, mb_le_3, mb_gt_3, mb_le_7, mb_gt_7, mb_lt_32, mb_ge_32, mb_lt_128, mb_ge_128, mb_ge_1, mb_lt_1, mb_ge_1f, mb_lt_1t, not_true, not_false_iff, false_implies, true_implies, true_and, and_true, forall_eq, forall_const, eq_self, mb_e10]
  refine cY _ ?_
  simp (disch := omega) only [nI_clamp, vp_in_nI, nI_1, nI_add, mb_lt_t, mb_lt_f, mb_le_t, mb_le_f, mb_ne, mb_lt0, mb_le0, mb_m1, mb_m1l, mb_m1g, mb_m1n, mb_x2, mb_x4, mb_x32, mb_lt_4, mb_le_4, mb_ge_4, mb_gt_4, mb_le_3, mb_gt_3, mb_le_7, mb_gt_7, mb_lt_32, mb_ge_32, mb_lt_128, mb_ge_128, mb_ge_1, mb_lt_1, mb_ge_1f, mb_lt_1t, not_true, not_false_iff, false_implies, true_implies, true_and, and_true, forall_eq, forall_const, eq_self, mb_e10, nf]
  exact K
theorem my_i143f {post : Int32 → SY → Prop} {J : Int32 → Int32 → Int32 → Int32 → Int32 → Int32 → Int32 → Int32 → Int32 → (Nat → Int32) → (Nat → Int32) → (Nat → Int32) → (Nat → Int32) → (Nat → Int32) → (Nat → Int32) → (Nat → Int32) → (Nat → Int32) → (Nat → Int32) → (Nat → Int32) → (Nat → Int32) → (Nat → Int32) → (Nat → Int32) → (Nat → Int32) → (Nat → Int32) → (Nat → Int32) → (Nat → Int32) → Prop} {x6 x8 x9 : Int32} {cur k : Nat} (hcur : cur < 32) (hk : k < 32)
    (cY : ∀ post' : Int32 → SY → Prop, post' (-2) (nI n, nI p, nI nd, nI c1, flt, par, rev, regs, pop, px, py, plen, pcs, st, kd1, hm1, lk1, (mb_ev sl1), (mb_od sl1), ht1, hx, he) → wpY_carry post' (nI n, nI p, nI nd, nI c, flt, par, rev, regs, pop, px, py, plen, pcs, st, kd, hm, lk, mb_ev sl, mb_od sl, (upd ht cur (ht cur + 1)), hx, he) arg x6 x9)
    (K : post (-1) (nI n, nI p, nI nd, nI c1, 3, par, rev, regs, pop, px, py, plen, pcs, st, kd1, hm1, lk1, (mb_ev sl1), (mb_od sl1), ht1, hx, he)) : wY_invoke_143 post J op arg (nI cur) x6 (nI k) x8 x9 (nI n) (nI p) (nI nd) (nI c) flt par rev regs pop px py plen pcs st kd hm lk (mb_ev sl) (mb_od sl) ht hx he := by
  simp (disch := omega) only [wY_invoke_143, nI_clamp, vp_in_nI, nI_1, nI_add, mb_lt_t, mb_lt_f, mb_le_t, mb_le_f, mb_ne, mb_lt0, mb_le0, mb_m1, mb_m1l, mb_m1g, mb_m1n, mb_x2, mb_x4, mb_x32, mb_lt_4, mb_le_4, mb_ge_4, mb_gt_4, mb_le_3, mb_gt_3, mb_le_7, mb_gt_7, mb_lt_32, mb_ge_32, mb_lt_128, mb_ge_128, mb_ge_1, mb_lt_1, mb_ge_1f, mb_lt_1t, not_true, not_false_iff, false_implies, true_implies, true_and, and_true, forall_eq, forall_const, eq_self, mb_e10]
  refine cY _ ?_
  simp (disch := omega) only [nI_clamp, vp_in_nI, nI_1, nI_add, mb_lt_t, mb_lt_f, mb_le_t, mb_le_f, mb_ne, mb_lt0, mb_le0, mb_m1, mb_m1l, mb_m1g, mb_m1n, mb_x2, mb_x4, mb_x32, mb_lt_4, mb_le_4, mb_ge_4, mb_gt_4, mb_le_3, mb_gt_3, mb_le_7, mb_gt_7, mb_lt_32, mb_ge_32, mb_lt_128, mb_ge_128, mb_ge_1, mb_lt_1, mb_ge_1f, mb_lt_1t, not_true, not_false_iff, false_implies, true_implies, true_and, and_true, forall_eq, forall_const, eq_self, mb_e10]
  exact K
theorem my_iac {post : Int32 → SY → Prop} {m cur k : Nat} {x6 : Int32} (hcur : cur < 32) (hk : k < 32) (k3 : ¬ kd cur = 3)
    (K : wY_invoke_212 post op arg (nI cur) (nI k) (nI n) (nI p) (nI nd) (nI c) flt par rev regs pop px py plen pcs st kd hm lk (mb_ev sl) (mb_od sl) ht hx he) : wY_invoke_33 post op (m + 1) arg (nI cur) x6 (nI k) (nI n) (nI p) (nI nd) (nI c) flt par rev regs pop px py plen pcs st kd hm lk (mb_ev sl) (mb_od sl) ht hx he := by
  simp (disch := omega) only [wY_invoke_33, nI_clamp, vp_in_nI, nI_1, nI_add, mb_lt_t, mb_lt_f, mb_le_t, mb_le_f, mb_ne, mb_lt0, mb_le0, mb_m1, mb_m1l, mb_m1g, mb_m1n, mb_x2, mb_x4, mb_x32, mb_lt_4, mb_le_4, mb_ge_4, mb_gt_4, mb_le_3, mb_gt_3, mb_le_7, mb_gt_7, mb_lt_32, mb_ge_32, mb_lt_128, mb_ge_128, mb_ge_1, mb_lt_1, mb_ge_1f, mb_lt_1t, not_true, not_false_iff, false_implies, true_implies, true_and, and_true, forall_eq, forall_const, eq_self, mb_e10, k3]
  exact K
theorem mb_pm (k : Nat) : nI k - 1 = nI k + -1 := Int32.sub_eq_add_neg _ _
/-- an invocation from the object cur on: both sides in one outcome -/
theorem mb_inv (hop : op = 2 ∨ op = 3 ∨ op = 4 ∨ op = 5 ∨ op = 6) : ∀ (M cur c : Nat) (kd hm lk ht sl path hx he : Nat → Int32) (arg : Int32) (k : Nat) (g : Nat → Nat), cur < M → cur < c →
    mb_H n nd c kd hm lk sl → mb_ref c arg → cur + k ≤ 31 → mb_W nd k g path hx he →
    ∃ (c' : Nat) (kd' hm' lk' ht' sl' : Nat → Int32) (rev' path' hx' he' : Nat → Int32) (rX rY flt' : Int32), mb_H n nd c' kd' hm' lk' sl' ∧ mb_E c kd hm lk c' kd' hm' lk' ∧ mb_V nd rev rev' ∧ mb_A c' rX rY flt' ∧
      (∀ (p : Nat) (par st pcs regs plen pop px py : Nat → Int32) (post : Int32 → SX → Prop), post rX (nI n, nI p, nI nd, nI c', par, rev', st, pcs, regs, plen, pop, px, py, kd', hm', lk', ht', sl', path') → ∀ m, cur < m → wX_invoke_25 post op m (nI cur) arg (nI k) (nI n) (nI p) (nI nd) (nI c) par rev st pcs regs plen pop px py kd hm lk ht sl path) ∧
      (∀ (p : Nat) (par regs pop px py plen pcs st : Nat → Int32) (post : Int32 → SY → Prop), post rY (nI n, nI p, nI nd, nI c', flt', par, rev', regs, pop, px, py, plen, pcs, st, kd', hm', lk', (mb_ev sl'), (mb_od sl'), ht', hx', he') → ∀ m, cur < m → wY_invoke_33 post op m arg (nI cur) (nI (g k)) (nI k) (nI n) (nI p) (nI nd) (nI c) 0 par rev regs pop px py plen pcs st kd hm lk (mb_ev sl) (mb_od sl) ht hx he) := by
  intro M
  induction M with
  | zero => intro cur c kd hm lk ht sl path hx he arg k g h; omega
  | succ M ih =>
    intro cur c kd hm lk ht sl path hx he arg k g hM hcur H harg hk W
    have hn : n ≤ 32 := H.2.1
    have hcn : c ≤ n := H.1
    have hnd : nd ≤ 4 := H.2.2.2.1
    have o := mb_H_ob H hcur
    by_cases k3 : kd cur = 3
    · obtain ⟨t, h1, et⟩ := mb_fw o k3
      obtain ⟨h, hh, eh⟩ := o.1
      obtain ⟨e, hh', ee⟩ := (mb_H_ob H (show t < c by omega)).1
      obtain ⟨x1, ex⟩ := W.1 k (by omega)
      have hmx := mb_mx_lt (d := 4) (show h < 4 by omega) (show e < 4 by omega)
      by_cases rv : rev (mb_mx h e) = 0
      · obtain ⟨c1, kd1, hm1, lk1, ht1, sl1, aX, aY, H1, E1, hA, cX, cY⟩ := mb_carry H harg x1 hh' (upd ht cur (ht cur + 1))
        have hc1 : c1 ≤ 32 := Nat.le_trans H1.1 H1.2.1
        have hcc : c ≤ c1 := E1.1
        rcases hA with ⟨r1, rfl⟩ | ⟨rfl, rfl⟩
        · obtain ⟨c', kd', hm', lk', ht', sl', rev', path', hx', he', rX, rY, flt', H2, E2, V2, A2, iX, iY⟩ := ih t c1 kd1 hm1 lk1 ht1 sl1 _ _ _ aY (k + 1) _ (by omega) (by omega) H1 r1 (by omega) (mb_W_s W hh')
          refine ⟨c', kd', hm', lk', ht', sl', rev', path', hx', he', rX, rY, flt', H2, mb_E_tr E1 E2, V2, A2, ?_, ?_⟩
          · intro p par st pcs regs plen pop px py post K m hm0
            obtain ⟨m, rfl⟩ : ∃ q, m = q + 1 := ⟨m - 1, by omega⟩
            exact mx_igo (by omega) (by omega) (by omega) (by omega) (by omega) k3 et ee eh rv ex (fun post' K' => cX p par rev st pcs regs plen pop px py path post' K') (mb_ref_le r1 hc1).1 (iX p par st pcs regs plen pop px py post K m (by omega))
          · intro p par regs pop px py plen pcs st post K m hm0
            obtain ⟨m, rfl⟩ : ∃ q, m = q + 1 := ⟨m - 1, by omega⟩
            have J := iY p par regs pop px py plen pcs st post K m (by omega)
            simp only [if_true] at J
            exact my_i33 (by omega) (by omega) (by omega) (by omega) (by omega) (by omega) k3 et ee eh (my_i113 (by omega) rv (my_i143 (by omega) (by omega) (fun post' K' => cY p 0 par rev regs pop px py plen pcs st hx he post' K') (mb_ref_le r1 hc1).2 J))
        · refine ⟨c1, kd1, hm1, lk1, ht1, sl1, rev, path, hx, he, -4, -1, 3, H1, E1, fun _ _ => rfl, Or.inr ⟨3, by omega, by omega, rfl, by decide⟩, ?_, ?_⟩
          · intro p par st pcs regs plen pop px py post K m hm0
            obtain ⟨m, rfl⟩ : ∃ q, m = q + 1 := ⟨m - 1, by omega⟩
            exact mx_ifl (by omega) (by omega) (by omega) (by omega) (by omega) k3 et ee eh rv ex (fun post' K' => cX p par rev st pcs regs plen pop px py path post' K') K
          · intro p par regs pop px py plen pcs st post K m hm0
            obtain ⟨m, rfl⟩ : ∃ q, m = q + 1 := ⟨m - 1, by omega⟩
            exact my_i33 (by omega) (by omega) (by omega) (by omega) (by omega) (by omega) k3 et ee eh (my_i113 (by omega) rv (my_i143f (by omega) (by omega) (fun post' K' => cY p 0 par rev regs pop px py plen pcs st hx he post' K') K))
      · refine ⟨c, kd, hm, lk, ht, sl, rev, path, hx, he, -3, -1, 2, H, mb_E_rf, fun _ _ => rfl, Or.inr ⟨2, by omega, by omega, rfl, by decide⟩, ?_, ?_⟩
        · intro p par st pcs regs plen pop px py post K m hm0
          obtain ⟨m, rfl⟩ : ∃ q, m = q + 1 := ⟨m - 1, by omega⟩
          exact mx_irv (by omega) (by omega) (by omega) (by omega) (by omega) k3 et ee eh rv K
        · intro p par regs pop px py plen pcs st post K m hm0
          obtain ⟨m, rfl⟩ : ∃ q, m = q + 1 := ⟨m - 1, by omega⟩
          exact my_i33 (by omega) (by omega) (by omega) (by omega) (by omega) (by omega) k3 et ee eh (my_i113r (by omega) rv K)
    · obtain ⟨rev', sl1, res, V1, H1, r1, aX, aY⟩ := mb_act H hcur k3 harg hop rev ht
      obtain ⟨c', kd', hm', lk', ht', sl', rX, rY, flt', H2, E2, A2, iX, iY⟩ := mb_back (rev := rev') k c kd hm lk (upd ht cur (ht cur + 1)) sl1 res H1 r1 W (by omega)
      refine ⟨c', kd', hm', lk', ht', sl', rev', path, hx, he, rX, rY, flt', H2, E2, V1, A2, ?_, ?_⟩
      · intro p par st pcs regs plen pop px py post K m hm0
        obtain ⟨m, rfl⟩ : ∃ q, m = q + 1 := ⟨m - 1, by omega⟩
        refine mx_iac (by omega) (by omega) k3 ?_
        refine aX path p par st pcs regs plen pop px py _ ?_
        refine nm_r (mb_pm k) ?_
        exact ⟨k + 1, iX p par st pcs regs plen pop px py _ K (k + 1) (by omega)⟩
      · intro p par regs pop px py plen pcs st post K m hm0
        obtain ⟨m, rfl⟩ : ∃ q, m = q + 1 := ⟨m - 1, by omega⟩
        refine my_iac (by omega) (by omega) k3 ?_
        refine aY hx he p par regs pop px py plen pcs st post (nI k) ?_
        rw [mb_pm]
        exact ⟨k + 1, iY p par regs pop px py plen pcs st post K (k + 1) (by omega)⟩
/-- INVOKE: both sides in one outcome -/
theorem mb_invoke (H : mb_H n nd c kd hm lk sl) (hop : op = 2 ∨ op = 3 ∨ op = 4 ∨ op = 5 ∨ op = 6) {r : Int32} (hr : mb_ref c r) {d : Nat} (hd : d < nd) (harg : mb_ref c arg) (rev ht path hx he : Nat → Int32) :
    ∃ (c' : Nat) (kd' hm' lk' ht' sl' : Nat → Int32) (rev' path' hx' he' : Nat → Int32) (rX rY flt' : Int32), mb_H n nd c' kd' hm' lk' sl' ∧ mb_E c kd hm lk c' kd' hm' lk' ∧ mb_V nd rev rev' ∧ mb_A c' rX rY flt' ∧
      (∀ (p : Nat) (par st pcs regs plen pop px py : Nat → Int32) (post : Int32 → SX → Prop), post rX (nI n, nI p, nI nd, nI c', par, rev', st, pcs, regs, plen, pop, px, py, kd', hm', lk', ht', sl', path') → wpX_invoke post (nI n, nI p, nI nd, nI c, par, rev, st, pcs, regs, plen, pop, px, py, kd, hm, lk, ht, sl, path) (nI d) r op arg) ∧
      (∀ (flt : Int32) (p : Nat) (par regs pop px py plen pcs st : Nat → Int32) (post : Int32 → SY → Prop), post rY (nI n, nI p, nI nd, nI c', flt', par, rev', regs, pop, px, py, plen, pcs, st, kd', hm', lk', (mb_ev sl'), (mb_od sl'), ht', hx', he') → wpY_invoke post (nI n, nI p, nI nd, nI c, flt, par, rev, regs, pop, px, py, plen, pcs, st, kd, hm, lk, mb_ev sl, mb_od sl, ht, hx, he) (nI d) r op arg) := by
  have hn : n ≤ 32 := H.2.1
  have hcn : c ≤ n := H.1
  rcases hr with rfl | ⟨j, hj, rfl⟩
  · refine ⟨c, kd, hm, lk, ht, sl, rev, path, hx, he, -2, -1, 1, H, mb_E_rf, fun _ _ => rfl, Or.inr ⟨1, by omega, by omega, rfl, by decide⟩, ?_, ?_⟩
    · intro p par st pcs regs plen pop px py post K
      exact br_t rfl K
    · intro flt p par regs pop px py plen pcs st post K
      exact br_t (by decide) K
  · obtain ⟨c', kd', hm', lk', ht', sl', rev', path', hx', he', rX, rY, flt', H2, E2, V2, A2, iX, iY⟩ := mb_inv (rev := rev) hop (j + 1) j c kd hm lk ht sl _ hx he arg 0 _ (by omega) hj H harg (by omega) (mb_W_0 (path := path) hd)
    refine ⟨c', kd', hm', lk', ht', sl', rev', path', hx', he', rX, rY, flt', H2, E2, V2, A2, ?_, ?_⟩
    · intro p par st pcs regs plen pop px py post K
      refine br_f (mb_n1 (by omega)) (nm_e ?_)
      exact ⟨j + 1, iX p par st pcs regs plen pop px py post K (j + 1) (by omega)⟩
    · intro flt p par regs pop px py plen pcs st post K
      refine br_f (nI_pos (by omega)) (br_t (nI_lt hj (by omega)) ?_)
      exact ⟨j + 1, iY p par regs pop px py plen pcs st post K (j + 1) (by omega)⟩
end
end
section
section
variable {n p nd c : Nat} {par rev st pcs regs plen pop px py kd hm lk ht sl path hx he : Nat → Int32} {flt : Int32}
theorem mb_o8 : ∀ o : Nat, o < 8 → (nI o = 0 ∨ nI o = 1 ∨ nI o = 2 ∨ nI o = 3 ∨ nI o = 4 ∨ nI o = 5 ∨ nI o = 6 ∨ nI o = 7) := by decide
theorem mb_neg : ∀ e : Nat, e ≤ 3 → (-1 : Int32) - (-1 - nI e) = nI e := by decide
theorem mb_nle : ∀ e : Nat, e ≤ 3 → 1 ≤ e → ¬ ((-1 : Int32) ≤ -1 - nI e) := by decide
theorem mx_ok {post : Int32 → SX → Prop} {x : Nat} {r : Int32} (h : x < 16) (nf : -1 ≤ r) (K : post r (nI n, nI p, nI nd, nI c, par, rev, st, pcs, (upd regs x r), plen, pop, px, py, kd, hm, lk, ht, sl, path)) : wX_execute_139 post (nI x) r (nI n) (nI p) (nI nd) (nI c) par rev st pcs regs plen pop px py kd hm lk ht sl path := by
  simp (disch := omega) only [wX_execute_139, wpX_isFault, nI_clamp, vp_in_nI, nI_1, nI_add, mb_lt_t, mb_lt_f, mb_le_t, mb_le_f, mb_ne, mb_lt0, mb_le0, mb_m1, mb_m1l, mb_m1g, mb_m1n, mb_x2, mb_x4, mb_x32, mb_lt_4, mb_le_4, mb_ge_4, mb_gt_4, mb_le_3, mb_gt_3, mb_le_7, mb_gt_7, mb_lt_32, mb_ge_32, mb_lt_128, mb_ge_128, mb_ge_1, mb_lt_1, mb_ge_1f, mb_lt_1t, not_true, not_false_iff, false_implies, true_implies, true_and, and_true, forall_eq, forall_const, eq_self, mb_e10, nf]
  exact K
theorem mx_fl {post : Int32 → SX → Prop} {x : Int32} {r : Int32} (nf : ¬ -1 ≤ r) (K : post r (nI n, nI p, nI nd, nI c, par, rev, st, pcs, regs, plen, pop, px, py, kd, hm, lk, ht, sl, path)) : wX_execute_139 post x r (nI n) (nI p) (nI nd) (nI c) par rev st pcs regs plen pop px py kd hm lk ht sl path := by
  simp (disch := omega) only [wX_execute_139, wpX_isFault, nI_clamp, vp_in_nI, nI_1, nI_add, mb_lt_t, mb_lt_f, mb_le_t, mb_le_f, mb_ne, mb_lt0, mb_le0, mb_m1, mb_m1l, mb_m1g, mb_m1n, mb_x2, mb_x4, mb_x32, mb_lt_4, mb_le_4, mb_ge_4, mb_gt_4, mb_le_3, mb_gt_3, mb_le_7, mb_gt_7, mb_lt_32, mb_ge_32, mb_lt_128, mb_ge_128, mb_ge_1, mb_lt_1, mb_ge_1f, mb_lt_1t, not_true, not_false_iff, false_implies, true_implies, true_and, and_true, forall_eq, forall_const, eq_self, mb_e10, nf]
  exact K
theorem mx_get {post : Int32 → SX → Prop} {d x y : Nat} {op r rX : Int32} {c' : Nat} {kd' hm' lk' ht' sl' rev' path' : Nat → Int32} (hop : op = 2 ∨ op = 3) (hd : d < 4) (h1 : x < 4) (h2 : y < 4) (er : regs (d * 4 + y) = r)
    (iX : ∀ post' : Int32 → SX → Prop, post' rX (nI n, nI p, nI nd, nI c', par, rev', st, pcs, regs, plen, pop, px, py, kd', hm', lk', ht', sl', path') → wpX_invoke post' (nI n, nI p, nI nd, nI c, par, rev, st, pcs, regs, plen, pop, px, py, kd, hm, lk, ht, sl, path) (nI d) r op (-1)) (K : wX_execute_139 post (nI (d * 4 + x)) rX (nI n) (nI p) (nI nd) (nI c') par rev' st pcs regs plen pop px py kd' hm' lk' ht' sl' path') :
    wpX_execute post (nI n, nI p, nI nd, nI c, par, rev, st, pcs, regs, plen, pop, px, py, kd, hm, lk, ht, sl, path) (nI d) op (nI x) (nI y) := by
  rcases hop with rfl | rfl
  · simp (disch := omega) only [wpX_execute, wX_execute_84, nI_clamp, vp_in_nI, nI_1, nI_add, mb_lt_t, mb_lt_f, mb_le_t, mb_le_f, mb_ne, mb_lt0, mb_le0, mb_m1, mb_m1l, mb_m1g, mb_m1n, mb_x2, mb_x4, mb_x32, mb_lt_4, mb_le_4, mb_ge_4, mb_gt_4, mb_le_3, mb_gt_3, mb_le_7, mb_gt_7, mb_lt_32, mb_ge_32, mb_lt_128, mb_ge_128, mb_ge_1, mb_lt_1, mb_ge_1f, mb_lt_1t, not_true, not_false_iff, false_implies, true_implies, true_and, and_true, forall_eq, forall_const, eq_self, mb_e10, mb_e01, mb_e02, mb_e03, mb_e04, mb_e05, mb_e06, mb_e07, mb_l00, mb_l02, mb_g50, mb_g60, mb_e10, mb_e12, mb_e13, mb_e14, mb_e15, mb_e16, mb_e17, mb_l10, mb_l12, mb_g51, mb_g61, mb_e20, mb_e21, mb_e23, mb_e24, mb_e25, mb_e26, mb_e27, mb_l20, mb_l22, mb_g52, mb_g62, mb_e30, mb_e31, mb_e32, mb_e34, mb_e35, mb_e36, mb_e37, mb_l30, mb_l32, mb_g53, mb_g63, mb_e40, mb_e41, mb_e42, mb_e43, mb_e45, mb_e46, mb_e47, mb_l40, mb_l42, mb_g54, mb_g64, mb_e50, mb_e51, mb_e52, mb_e53, mb_e54, mb_e56, mb_e57, mb_l50, mb_l52, mb_g55, mb_g65, mb_e60, mb_e61, mb_e62, mb_e63, mb_e64, mb_e65, mb_e67, mb_l60, mb_l62, mb_g56, mb_g66, mb_e70, mb_e71, mb_e72, mb_e73, mb_e74, mb_e75, mb_e76, mb_l70, mb_l72, mb_g57, mb_g67, er]
    exact iX _ K
  · simp (disch := omega) only [wpX_execute, wX_execute_84, nI_clamp, vp_in_nI, nI_1, nI_add, mb_lt_t, mb_lt_f, mb_le_t, mb_le_f, mb_ne, mb_lt0, mb_le0, mb_m1, mb_m1l, mb_m1g, mb_m1n, mb_x2, mb_x4, mb_x32, mb_lt_4, mb_le_4, mb_ge_4, mb_gt_4, mb_le_3, mb_gt_3, mb_le_7, mb_gt_7, mb_lt_32, mb_ge_32, mb_lt_128, mb_ge_128, mb_ge_1, mb_lt_1, mb_ge_1f, mb_lt_1t, not_true, not_false_iff, false_implies, true_implies, true_and, and_true, forall_eq, forall_const, eq_self, mb_e10, mb_e01, mb_e02, mb_e03, mb_e04, mb_e05, mb_e06, mb_e07, mb_l00, mb_l02, mb_g50, mb_g60, mb_e10, mb_e12, mb_e13, mb_e14, mb_e15, mb_e16, mb_e17, mb_l10, mb_l12, mb_g51, mb_g61, mb_e20, mb_e21, mb_e23, mb_e24, mb_e25, mb_e26, mb_e27, mb_l20, mb_l22, mb_g52, mb_g62, mb_e30, mb_e31, mb_e32, mb_e34, mb_e35, mb_e36, mb_e37, mb_l30, mb_l32, mb_g53, mb_g63, mb_e40, mb_e41, mb_e42, mb_e43, mb_e45, mb_e46, mb_e47, mb_l40, mb_l42, mb_g54, mb_g64, mb_e50, mb_e51, mb_e52, mb_e53, mb_e54, mb_e56, mb_e57, mb_l50, mb_l52, mb_g55, mb_g65, mb_e60, mb_e61, mb_e62, mb_e63, mb_e64, mb_e65, mb_e67, mb_l60, mb_l62, mb_g56, mb_g66, mb_e70, mb_e71, mb_e72, mb_e73, mb_e74, mb_e75, mb_e76, mb_l70, mb_l72, mb_g57, mb_g67, er]
    exact iX _ K
theorem mx_put {post : Int32 → SX → Prop} {d x y : Nat} {op r a rX : Int32} {c' : Nat} {kd' hm' lk' ht' sl' rev' path' : Nat → Int32} (hop : op = 4 ∨ op = 5) (hd : d < 4) (h1 : x < 4) (h2 : y < 4) (er : regs (d * 4 + x) = r) (ea : regs (d * 4 + y) = a)
    (iX : ∀ post' : Int32 → SX → Prop, post' rX (nI n, nI p, nI nd, nI c', par, rev', st, pcs, regs, plen, pop, px, py, kd', hm', lk', ht', sl', path') → wpX_invoke post' (nI n, nI p, nI nd, nI c, par, rev, st, pcs, regs, plen, pop, px, py, kd, hm, lk, ht, sl, path) (nI d) r op a) (K : post rX (nI n, nI p, nI nd, nI c', par, rev', st, pcs, regs, plen, pop, px, py, kd', hm', lk', ht', sl', path')) :
    wpX_execute post (nI n, nI p, nI nd, nI c, par, rev, st, pcs, regs, plen, pop, px, py, kd, hm, lk, ht, sl, path) (nI d) op (nI x) (nI y) := by
  rcases hop with rfl | rfl
  · simp (disch := omega) only [wpX_execute, wX_execute_103, nI_clamp, vp_in_nI, nI_1, nI_add, mb_lt_t, mb_lt_f, mb_le_t, mb_le_f, mb_ne, mb_lt0, mb_le0, mb_m1, mb_m1l, mb_m1g, mb_m1n, mb_x2, mb_x4, mb_x32, mb_lt_4, mb_le_4, mb_ge_4, mb_gt_4, mb_le_3, mb_gt_3, mb_le_7, mb_gt_7, mb_lt_32, mb_ge_32, mb_lt_128, mb_ge_128, mb_ge_1, mb_lt_1, mb_ge_1f, mb_lt_1t, not_true, not_false_iff, false_implies, true_implies, true_and, and_true, forall_eq, forall_const, eq_self, mb_e10, mb_e01, mb_e02, mb_e03, mb_e04, mb_e05, mb_e06, mb_e07, mb_l00, mb_l02, mb_g50, mb_g60, mb_e10, mb_e12, mb_e13, mb_e14, mb_e15, mb_e16, mb_e17, mb_l10, mb_l12, mb_g51, mb_g61, mb_e20, mb_e21, mb_e23, mb_e24, mb_e25, mb_e26, mb_e27, mb_l20, mb_l22, mb_g52, mb_g62, mb_e30, mb_e31, mb_e32, mb_e34, mb_e35, mb_e36, mb_e37, mb_l30, mb_l32, mb_g53, mb_g63, mb_e40, mb_e41, mb_e42, mb_e43, mb_e45, mb_e46, mb_e47, mb_l40, mb_l42, mb_g54, mb_g64, mb_e50, mb_e51, mb_e52, mb_e53, mb_e54, mb_e56, mb_e57, mb_l50, mb_l52, mb_g55, mb_g65, mb_e60, mb_e61, mb_e62, mb_e63, mb_e64, mb_e65, mb_e67, mb_l60, mb_l62, mb_g56, mb_g66, mb_e70, mb_e71, mb_e72, mb_e73, mb_e74, mb_e75, mb_e76, mb_l70, mb_l72, mb_g57, mb_g67, er, ea]
    exact iX _ K
  · simp (disch := omega) only [wpX_execute, wX_execute_103, nI_clamp, vp_in_nI, nI_1, nI_add, mb_lt_t, mb_lt_f, mb_le_t, mb_le_f, mb_ne, mb_lt0, mb_le0, mb_m1, mb_m1l, mb_m1g, mb_m1n, mb_x2, mb_x4, mb_x32, mb_lt_4, mb_le_4, mb_ge_4, mb_gt_4, mb_le_3, mb_gt_3, mb_le_7, mb_gt_7, mb_lt_32, mb_ge_32, mb_lt_128, mb_ge_128, mb_ge_1, mb_lt_1, mb_ge_1f, mb_lt_1t, not_true, not_false_iff, false_implies, true_implies, true_and, and_true, forall_eq, forall_const, eq_self, mb_e10, mb_e01, mb_e02, mb_e03, mb_e04, mb_e05, mb_e06, mb_e07, mb_l00, mb_l02, mb_g50, mb_g60, mb_e10, mb_e12, mb_e13, mb_e14, mb_e15, mb_e16, mb_e17, mb_l10, mb_l12, mb_g51, mb_g61, mb_e20, mb_e21, mb_e23, mb_e24, mb_e25, mb_e26, mb_e27, mb_l20, mb_l22, mb_g52, mb_g62, mb_e30, mb_e31, mb_e32, mb_e34, mb_e35, mb_e36, mb_e37, mb_l30, mb_l32, mb_g53, mb_g63, mb_e40, mb_e41, mb_e42, mb_e43, mb_e45, mb_e46, mb_e47, mb_l40, mb_l42, mb_g54, mb_g64, mb_e50, mb_e51, mb_e52, mb_e53, mb_e54, mb_e56, mb_e57, mb_l50, mb_l52, mb_g55, mb_g65, mb_e60, mb_e61, mb_e62, mb_e63, mb_e64, mb_e65, mb_e67, mb_l60, mb_l62, mb_g56, mb_g66, mb_e70, mb_e71, mb_e72, mb_e73, mb_e74, mb_e75, mb_e76, mb_l70, mb_l72, mb_g57, mb_g67, er, ea]
    exact iX _ K
theorem mx_poke {post : Int32 → SX → Prop} {d x y : Nat} {r rX : Int32} {c' : Nat} {kd' hm' lk' ht' sl' rev' path' : Nat → Int32} (hd : d < 4) (h1 : x < 4) (h2 : y < 4) (er : regs (d * 4 + x) = r)
    (iX : ∀ post' : Int32 → SX → Prop, post' rX (nI n, nI p, nI nd, nI c', par, rev', st, pcs, regs, plen, pop, px, py, kd', hm', lk', ht', sl', path') → wpX_invoke post' (nI n, nI p, nI nd, nI c, par, rev, st, pcs, regs, plen, pop, px, py, kd, hm, lk, ht, sl, path) (nI d) r 6 (-1)) (K : post rX (nI n, nI p, nI nd, nI c', par, rev', st, pcs, regs, plen, pop, px, py, kd', hm', lk', ht', sl', path')) :
    wpX_execute post (nI n, nI p, nI nd, nI c, par, rev, st, pcs, regs, plen, pop, px, py, kd, hm, lk, ht, sl, path) (nI d) 6 (nI x) (nI y) := by
  simp (disch := omega) only [wpX_execute, nI_clamp, vp_in_nI, nI_1, nI_add, mb_lt_t, mb_lt_f, mb_le_t, mb_le_f, mb_ne, mb_lt0, mb_le0, mb_m1, mb_m1l, mb_m1g, mb_m1n, mb_x2, mb_x4, mb_x32, mb_lt_4, mb_le_4, mb_ge_4, mb_gt_4, mb_le_3, mb_gt_3, mb_le_7, mb_gt_7, mb_lt_32, mb_ge_32, mb_lt_128, mb_ge_128, mb_ge_1, mb_lt_1, mb_ge_1f, mb_lt_1t, not_true, not_false_iff, false_implies, true_implies, true_and, and_true, forall_eq, forall_const, eq_self, mb_e10, mb_e01, mb_e02, mb_e03, mb_e04, mb_e05, mb_e06, mb_e07, mb_l00, mb_l02, mb_g50, mb_g60, mb_e10, mb_e12, mb_e13, mb_e14, mb_e15, mb_e16, mb_e17, mb_l10, mb_l12, mb_g51, mb_g61, mb_e20, mb_e21, mb_e23, mb_e24, mb_e25, mb_e26, mb_e27, mb_l20, mb_l22, mb_g52, mb_g62, mb_e30, mb_e31, mb_e32, mb_e34, mb_e35, mb_e36, mb_e37, mb_l30, mb_l32, mb_g53, mb_g63, mb_e40, mb_e41, mb_e42, mb_e43, mb_e45, mb_e46, mb_e47, mb_l40, mb_l42, mb_g54, mb_g64, mb_e50, mb_e51, mb_e52, mb_e53, mb_e54, mb_e56, mb_e57, mb_l50, mb_l52, mb_g55, mb_g65, mb_e60, mb_e61, mb_e62, mb_e63, mb_e64, mb_e65, mb_e67, mb_l60, mb_l62, mb_g56, mb_g66, mb_e70, mb_e71, mb_e72, mb_e73, mb_e74, mb_e75, mb_e76, mb_l70, mb_l72, mb_g57, mb_g67, er]
  exact iX _ K
theorem my_get {post : Int32 → SY → Prop} {d q x y : Nat} {op r rY flt' : Int32} {c' : Nat} {kd' hm' lk' ht' sl' rev' : Nat → Int32} {hx' he' : Nat → Int32} (hop : op = 2 ∨ op = 3) (hd : d < 4) (hq : q < 32) (h1 : x < 4) (h2 : y < 4)
    (eq : pcs d = nI q) (e1 : pop (d * 32 + q) = op) (e2 : px (d * 32 + q) = nI x) (e3 : py (d * 32 + q) = nI y) (er : regs (d * 4 + y) = r)
    (iY : ∀ post' : Int32 → SY → Prop, post' rY (nI n, nI p, nI nd, nI c', flt', par, rev', regs, pop, px, py, plen, pcs, st, kd', hm', lk', (mb_ev sl'), (mb_od sl'), ht', hx', he') → wpY_invoke post' (nI n, nI p, nI nd, nI c, flt, par, rev, regs, pop, px, py, plen, pcs, st, kd, hm, lk, mb_ev sl, mb_od sl, ht, hx, he) (nI d) r op (-1))
    (K1 : flt' = 0 → post 0 (nI n, nI p, nI nd, nI c', flt', par, rev', (upd regs (d * 4 + x) rY), pop, px, py, plen, pcs, st, kd', hm', lk', (mb_ev sl'), (mb_od sl'), ht', hx', he')) (K2 : ¬ flt' = 0 → post flt' (nI n, nI p, nI nd, nI c', flt', par, rev', regs, pop, px, py, plen, pcs, st, kd', hm', lk', (mb_ev sl'), (mb_od sl'), ht', hx', he')) :
    wpY_step post (nI n, nI p, nI nd, nI c, flt, par, rev, regs, pop, px, py, plen, pcs, st, kd, hm, lk, mb_ev sl, mb_od sl, ht, hx, he) (nI d) := by
  rcases hop with rfl | rfl
  · simp (disch := omega) only [wpY_step, wY_step_136, nI_clamp, vp_in_nI, nI_1, nI_add, mb_lt_t, mb_lt_f, mb_le_t, mb_le_f, mb_ne, mb_lt0, mb_le0, mb_m1, mb_m1l, mb_m1g, mb_m1n, mb_x2, mb_x4, mb_x32, mb_lt_4, mb_le_4, mb_ge_4, mb_gt_4, mb_le_3, mb_gt_3, mb_le_7, mb_gt_7, mb_lt_32, mb_ge_32, mb_lt_128, mb_ge_128, mb_ge_1, mb_lt_1, mb_ge_1f, mb_lt_1t, not_true, not_false_iff, false_implies, true_implies, true_and, and_true, forall_eq, forall_const, eq_self, mb_e10, mb_e01, mb_e02, mb_e03, mb_e04, mb_e05, mb_e06, mb_e07, mb_l00, mb_l02, mb_g50, mb_g60, mb_e10, mb_e12, mb_e13, mb_e14, mb_e15, mb_e16, mb_e17, mb_l10, mb_l12, mb_g51, mb_g61, mb_e20, mb_e21, mb_e23, mb_e24, mb_e25, mb_e26, mb_e27, mb_l20, mb_l22, mb_g52, mb_g62, mb_e30, mb_e31, mb_e32, mb_e34, mb_e35, mb_e36, mb_e37, mb_l30, mb_l32, mb_g53, mb_g63, mb_e40, mb_e41, mb_e42, mb_e43, mb_e45, mb_e46, mb_e47, mb_l40, mb_l42, mb_g54, mb_g64, mb_e50, mb_e51, mb_e52, mb_e53, mb_e54, mb_e56, mb_e57, mb_l50, mb_l52, mb_g55, mb_g65, mb_e60, mb_e61, mb_e62, mb_e63, mb_e64, mb_e65, mb_e67, mb_l60, mb_l62, mb_g56, mb_g66, mb_e70, mb_e71, mb_e72, mb_e73, mb_e74, mb_e75, mb_e76, mb_l70, mb_l72, mb_g57, mb_g67, eq, e1, e2, e3, er]
    refine iY _ ?_
    simp (disch := omega) only [nI_clamp, vp_in_nI, nI_1, nI_add, mb_lt_t, mb_lt_f, mb_le_t, mb_le_f, mb_ne, mb_lt0, mb_le0, mb_m1, mb_m1l, mb_m1g, mb_m1n, mb_x2, mb_x4, mb_x32, mb_lt_4, mb_le_4, mb_ge_4, mb_gt_4, mb_le_3, mb_gt_3, mb_le_7, mb_gt_7, mb_lt_32, mb_ge_32, mb_lt_128, mb_ge_128, mb_ge_1, mb_lt_1, mb_ge_1f, mb_lt_1t, not_true, not_false_iff, false_implies, true_implies, true_and, and_true, forall_eq, forall_const, eq_self, mb_e10]
    exact ⟨K1, K2⟩
  · simp (disch := omega) only [wpY_step, wY_step_136, nI_clamp, vp_in_nI, nI_1, nI_add, mb_lt_t, mb_lt_f, mb_le_t, mb_le_f, mb_ne, mb_lt0, mb_le0, mb_m1, mb_m1l, mb_m1g, mb_m1n, mb_x2, mb_x4, mb_x32, mb_lt_4, mb_le_4, mb_ge_4, mb_gt_4, mb_le_3, mb_gt_3, mb_le_7, mb_gt_7, mb_lt_32, mb_ge_32, mb_lt_128, mb_ge_128, mb_ge_1, mb_lt_1, mb_ge_1f, mb_lt_1t, not_true, not_false_iff, false_implies, true_implies, true_and, and_true, forall_eq, forall_const, eq_self, mb_e10, mb_e01, mb_e02, mb_e03, mb_e04, mb_e05, mb_e06, mb_e07, mb_l00, mb_l02, mb_g50, mb_g60, mb_e10, mb_e12, mb_e13, mb_e14, mb_e15, mb_e16, mb_e17, mb_l10, mb_l12, mb_g51, mb_g61, mb_e20, mb_e21, mb_e23, mb_e24, mb_e25, mb_e26, mb_e27, mb_l20, mb_l22, mb_g52, mb_g62, mb_e30, mb_e31, mb_e32, mb_e34, mb_e35, mb_e36, mb_e37, mb_l30, mb_l32, mb_g53, mb_g63, mb_e40, mb_e41, mb_e42, mb_e43, mb_e45, mb_e46, mb_e47, mb_l40, mb_l42, mb_g54, mb_g64, mb_e50, mb_e51, mb_e52, mb_e53, mb_e54, mb_e56, mb_e57, mb_l50, mb_l52, mb_g55, mb_g65, mb_e60, mb_e61, mb_e62, mb_e63, mb_e64, mb_e65, mb_e67, mb_l60, mb_l62, mb_g56, mb_g66, mb_e70, mb_e71, mb_e72, mb_e73, mb_e74, mb_e75, mb_e76, mb_l70, mb_l72, mb_g57, mb_g67, eq, e1, e2, e3, er]
    refine iY _ ?_
    simp (disch := omega) only [nI_clamp, vp_in_nI, nI_1, nI_add, mb_lt_t, mb_lt_f, mb_le_t, mb_le_f, mb_ne, mb_lt0, mb_le0, mb_m1, mb_m1l, mb_m1g, mb_m1n, mb_x2, mb_x4, mb_x32, mb_lt_4, mb_le_4, mb_ge_4, mb_gt_4, mb_le_3, mb_gt_3, mb_le_7, mb_gt_7, mb_lt_32, mb_ge_32, mb_lt_128, mb_ge_128, mb_ge_1, mb_lt_1, mb_ge_1f, mb_lt_1t, not_true, not_false_iff, false_implies, true_implies, true_and, and_true, forall_eq, forall_const, eq_self, mb_e10]
    exact ⟨K1, K2⟩
theorem my_put {post : Int32 → SY → Prop} {d q x y : Nat} {op r a rY flt' : Int32} {c' : Nat} {kd' hm' lk' ht' sl' rev' : Nat → Int32} {hx' he' : Nat → Int32} (hop : op = 4 ∨ op = 5) (hd : d < 4) (hq : q < 32) (h1 : x < 4) (h2 : y < 4)
    (eq : pcs d = nI q) (e1 : pop (d * 32 + q) = op) (e2 : px (d * 32 + q) = nI x) (e3 : py (d * 32 + q) = nI y) (er : regs (d * 4 + x) = r) (ea : regs (d * 4 + y) = a)
    (iY : ∀ post' : Int32 → SY → Prop, post' rY (nI n, nI p, nI nd, nI c', flt', par, rev', regs, pop, px, py, plen, pcs, st, kd', hm', lk', (mb_ev sl'), (mb_od sl'), ht', hx', he') → wpY_invoke post' (nI n, nI p, nI nd, nI c, flt, par, rev, regs, pop, px, py, plen, pcs, st, kd, hm, lk, mb_ev sl, mb_od sl, ht, hx, he) (nI d) r op a)
    (K : post flt' (nI n, nI p, nI nd, nI c', flt', par, rev', regs, pop, px, py, plen, pcs, st, kd', hm', lk', (mb_ev sl'), (mb_od sl'), ht', hx', he')) :
    wpY_step post (nI n, nI p, nI nd, nI c, flt, par, rev, regs, pop, px, py, plen, pcs, st, kd, hm, lk, mb_ev sl, mb_od sl, ht, hx, he) (nI d) := by
  rcases hop with rfl | rfl
  · simp (disch := omega) only [wpY_step, wY_step_185, nI_clamp, vp_in_nI, nI_1, nI_add, mb_lt_t, mb_lt_f, mb_le_t, mb_le_f, mb_ne, mb_lt0, mb_le0, mb_m1, mb_m1l, mb_m1g, mb_m1n, mb_x2, mb_x4, mb_x32, mb_lt_4, mb_le_4, mb_ge_4, mb_gt_4, mb_le_3, mb_gt_3, mb_le_7, mb_gt_7, mb_lt_32, mb_ge_32, mb_lt_128, mb_ge_128, mb_ge_1, mb_lt_1, mb_ge_1f, mb_lt_1t, not_true, not_false_iff, false_implies, true_implies, true_and, and_true, forall_eq, forall_const, eq_self, mb_e10, mb_e01, mb_e02, mb_e03, mb_e04, mb_e05, mb_e06, mb_e07, mb_l00, mb_l02, mb_g50, mb_g60, mb_e10, mb_e12, mb_e13, mb_e14, mb_e15, mb_e16, mb_e17, mb_l10, mb_l12, mb_g51, mb_g61, mb_e20, mb_e21, mb_e23, mb_e24, mb_e25, mb_e26, mb_e27, mb_l20, mb_l22, mb_g52, mb_g62, mb_e30, mb_e31, mb_e32, mb_e34, mb_e35, mb_e36, mb_e37, mb_l30, mb_l32, mb_g53, mb_g63, mb_e40, mb_e41, mb_e42, mb_e43, mb_e45, mb_e46, mb_e47, mb_l40, mb_l42, mb_g54, mb_g64, mb_e50, mb_e51, mb_e52, mb_e53, mb_e54, mb_e56, mb_e57, mb_l50, mb_l52, mb_g55, mb_g65, mb_e60, mb_e61, mb_e62, mb_e63, mb_e64, mb_e65, mb_e67, mb_l60, mb_l62, mb_g56, mb_g66, mb_e70, mb_e71, mb_e72, mb_e73, mb_e74, mb_e75, mb_e76, mb_l70, mb_l72, mb_g57, mb_g67, eq, e1, e2, e3, er, ea]
    exact iY _ K
  · simp (disch := omega) only [wpY_step, wY_step_185, nI_clamp, vp_in_nI, nI_1, nI_add, mb_lt_t, mb_lt_f, mb_le_t, mb_le_f, mb_ne, mb_lt0, mb_le0, mb_m1, mb_m1l, mb_m1g, mb_m1n, mb_x2, mb_x4, mb_x32, mb_lt_4, mb_le_4, mb_ge_4, mb_gt_4, mb_le_3, mb_gt_3, mb_le_7, mb_gt_7, mb_lt_32, mb_ge_32, mb_lt_128, mb_ge_128, mb_ge_1, mb_lt_1, mb_ge_1f, mb_lt_1t, not_true, not_false_iff, false_implies, true_implies, true_and, and_true, forall_eq, forall_const, eq_self, mb_e10, mb_e01, mb_e02, mb_e03, mb_e04, mb_e05, mb_e06, mb_e07, mb_l00, mb_l02, mb_g50, mb_g60, mb_e10, mb_e12, mb_e13, mb_e14, mb_e15, mb_e16, mb_e17, mb_l10, mb_l12, mb_g51, mb_g61, mb_e20, mb_e21, mb_e23, mb_e24, mb_e25, mb_e26, mb_e27, mb_l20, mb_l22, mb_g52, mb_g62, mb_e30, mb_e31, mb_e32, mb_e34, mb_e35, mb_e36, mb_e37, mb_l30, mb_l32, mb_g53, mb_g63, mb_e40, mb_e41, mb_e42, mb_e43, mb_e45, mb_e46, mb_e47, mb_l40, mb_l42, mb_g54, mb_g64, mb_e50, mb_e51, mb_e52, mb_e53, mb_e54, mb_e56, mb_e57, mb_l50, mb_l52, mb_g55, mb_g65, mb_e60, mb_e61, mb_e62, mb_e63, mb_e64, mb_e65, mb_e67, mb_l60, mb_l62, mb_g56, mb_g66, mb_e70, mb_e71, mb_e72, mb_e73, mb_e74, mb_e75, mb_e76, mb_l70, mb_l72, mb_g57, mb_g67, eq, e1, e2, e3, er, ea]
    exact iY _ K
theorem my_poke {post : Int32 → SY → Prop} {d q x y : Nat} {r rY flt' : Int32} {c' : Nat} {kd' hm' lk' ht' sl' rev' : Nat → Int32} {hx' he' : Nat → Int32} (hd : d < 4) (hq : q < 32) (h1 : x < 4) (h2 : y < 4)
    (eq : pcs d = nI q) (e1 : pop (d * 32 + q) = 6) (e2 : px (d * 32 + q) = nI x) (e3 : py (d * 32 + q) = nI y) (er : regs (d * 4 + x) = r)
    (iY : ∀ post' : Int32 → SY → Prop, post' rY (nI n, nI p, nI nd, nI c', flt', par, rev', regs, pop, px, py, plen, pcs, st, kd', hm', lk', (mb_ev sl'), (mb_od sl'), ht', hx', he') → wpY_invoke post' (nI n, nI p, nI nd, nI c, flt, par, rev, regs, pop, px, py, plen, pcs, st, kd, hm, lk, mb_ev sl, mb_od sl, ht, hx, he) (nI d) r 6 (-1))
    (K : post flt' (nI n, nI p, nI nd, nI c', flt', par, rev', regs, pop, px, py, plen, pcs, st, kd', hm', lk', (mb_ev sl'), (mb_od sl'), ht', hx', he')) :
    wpY_step post (nI n, nI p, nI nd, nI c, flt, par, rev, regs, pop, px, py, plen, pcs, st, kd, hm, lk, mb_ev sl, mb_od sl, ht, hx, he) (nI d) := by
  simp (disch := omega) only [wpY_step, nI_clamp, vp_in_nI, nI_1, nI_add, mb_lt_t, mb_lt_f, mb_le_t, mb_le_f, mb_ne, mb_lt0, mb_le0, mb_m1, mb_m1l, mb_m1g, mb_m1n, mb_x2, mb_x4, mb_x32, mb_lt_4, mb_le_4, mb_ge_4, mb_gt_4, mb_le_3, mb_gt_3, mb_le_7, mb_gt_7, mb_lt_32, mb_ge_32, mb_lt_128, mb_ge_128, mb_ge_1, mb_lt_1, mb_ge_1f, mb_lt_1t, not_true, not_false_iff, false_implies, true_implies, true_and, and_true, forall_eq, forall_const, eq_self, mb_e10, mb_e01, mb_e02, mb_e03, mb_e04, mb_e05, mb_e06, mb_e07, mb_l00, mb_l02, mb_g50, mb_g60, mb_e10, mb_e12, mb_e13, mb_e14, mb_e15, mb_e16, mb_e17, mb_l10, mb_l12, mb_g51, mb_g61, mb_e20, mb_e21, mb_e23, mb_e24, mb_e25, mb_e26, mb_e27, mb_l20, mb_l22, mb_g52, mb_g62, mb_e30, mb_e31, mb_e32, mb_e34, mb_e35, mb_e36, mb_e37, mb_l30, mb_l32, mb_g53, mb_g63, mb_e40, mb_e41, mb_e42, mb_e43, mb_e45, mb_e46, mb_e47, mb_l40, mb_l42, mb_g54, mb_g64, mb_e50, mb_e51, mb_e52, mb_e53, mb_e54, mb_e56, mb_e57, mb_l50, mb_l52, mb_g55, mb_g65, mb_e60, mb_e61, mb_e62, mb_e63, mb_e64, mb_e65, mb_e67, mb_l60, mb_l62, mb_g56, mb_g66, mb_e70, mb_e71, mb_e72, mb_e73, mb_e74, mb_e75, mb_e76, mb_l70, mb_l72, mb_g57, mb_g67, eq, e1, e2, e3, er]
  exact iY _ K
/-- one instruction: both sides in one outcome -/
theorem mb_exec (I : mb_I n p nd c par rev st pcs regs plen pop px py kd hm lk sl) {d q o x y : Nat} (hd : d < nd) (hq : q < 32) (h0 : o < 8) (h1 : x < 4) (h2 : y < 4)
    (eq : pcs d = nI q) (e1 : pop (d * 32 + q) = nI o) (e2 : px (d * 32 + q) = nI x) (e3 : py (d * 32 + q) = nI y) (ht path hx he : Nat → Int32) (flt : Int32) :
    ∃ (c' : Nat) (kd' hm' lk' ht' sl' : Nat → Int32) (rev' regs' path' hx' he' : Nat → Int32) (flt' rX : Int32) (e : Nat), mb_I n p nd c' par rev' st pcs regs' plen pop px py kd' hm' lk' sl' ∧ e ≤ 3 ∧ ((e = 0 ∧ -1 ≤ rX) ∨ (1 ≤ e ∧ rX = -1 - nI e)) ∧
      (∀ post : Int32 → SX → Prop, post rX (nI n, nI p, nI nd, nI c', par, rev', st, pcs, regs', plen, pop, px, py, kd', hm', lk', ht', sl', path') → wpX_execute post (nI n, nI p, nI nd, nI c, par, rev, st, pcs, regs, plen, pop, px, py, kd, hm, lk, ht, sl, path) (nI d) (nI o) (nI x) (nI y)) ∧
      (∀ post : Int32 → SY → Prop, post (nI e) (nI n, nI p, nI nd, nI c', flt', par, rev', regs', pop, px, py, plen, pcs, st, kd', hm', lk', (mb_ev sl'), (mb_od sl'), ht', hx', he') → wpY_step post (nI n, nI p, nI nd, nI c, flt, par, rev, regs, pop, px, py, plen, pcs, st, kd, hm, lk, mb_ev sl, mb_od sl, ht, hx, he) (nI d)) := by
  obtain ⟨H, hn8, hp8, hp, hP, hF, hR, hG⟩ := I
  have hn : n ≤ 32 := H.2.1
  have hcn : c ≤ n := H.1
  have hnd : nd ≤ 4 := H.2.2.2.1
  have rx := hR (d * 4 + x) (by omega)
  have ry := hR (d * 4 + y) (by omega)
  have eo := mb_o8 o h0
  generalize nI o = op at e1 eo ⊢
  rcases eo with rfl | rfl | z | z | z | z | rfl | rfl
  · -- NEW
    by_cases hc : c < n
    · refine ⟨c + 1, upd kd c 1, upd hm c (nI d), upd lk c (-1), upd ht c 0, upd (upd sl (c * 2) (-1)) (c * 2 + 1) (-1), rev, upd regs (d * 4 + x) (nI c), path, hx, he, flt, nI c, 0,
        ⟨mb_mk H hc ⟨⟨d, hd, rfl⟩, Or.inl ⟨rfl, rfl⟩⟩, hn8, hp8, hp, hP, mb_F_reg hF hd h1 _, mb_R_set (mb_R_up hR (by omega)) _ (Or.inr ⟨c, by omega, rfl⟩), hG⟩, by omega, Or.inl ⟨rfl, of_eq_true (mb_m1l (by omega))⟩, ?_, ?_⟩
      · intro post K
        simp (disch := omega) only [wpX_execute, nI_clamp, vp_in_nI, nI_1, nI_add, mb_lt_t, mb_lt_f, mb_le_t, mb_le_f, mb_ne, mb_lt0, mb_le0, mb_m1, mb_m1l, mb_m1g, mb_m1n, mb_x2, mb_x4, mb_x32, mb_lt_4, mb_le_4, mb_ge_4, mb_gt_4, mb_le_3, mb_gt_3, mb_le_7, mb_gt_7, mb_lt_32, mb_ge_32, mb_lt_128, mb_ge_128, mb_ge_1, mb_lt_1, mb_ge_1f, mb_lt_1t, not_true, not_false_iff, false_implies, true_implies, true_and, and_true, forall_eq, forall_const, eq_self, mb_e10, mb_e01, mb_e02, mb_e03, mb_e04, mb_e05, mb_e06, mb_e07, mb_l00, mb_l02, mb_g50, mb_g60, mb_e10, mb_e12, mb_e13, mb_e14, mb_e15, mb_e16, mb_e17, mb_l10, mb_l12, mb_g51, mb_g61, mb_e20, mb_e21, mb_e23, mb_e24, mb_e25, mb_e26, mb_e27, mb_l20, mb_l22, mb_g52, mb_g62, mb_e30, mb_e31, mb_e32, mb_e34, mb_e35, mb_e36, mb_e37, mb_l30, mb_l32, mb_g53, mb_g63, mb_e40, mb_e41, mb_e42, mb_e43, mb_e45, mb_e46, mb_e47, mb_l40, mb_l42, mb_g54, mb_g64, mb_e50, mb_e51, mb_e52, mb_e53, mb_e54, mb_e56, mb_e57, mb_l50, mb_l52, mb_g55, mb_g65, mb_e60, mb_e61, mb_e62, mb_e63, mb_e64, mb_e65, mb_e67, mb_l60, mb_l62, mb_g56, mb_g66, mb_e70, mb_e71, mb_e72, mb_e73, mb_e74, mb_e75, mb_e76, mb_l70, mb_l72, mb_g57, mb_g67]
        exact mx_mk hc hn (mx_ok (by omega) (of_eq_true (mb_m1l (by omega))) K)
      · intro post K
        simp (disch := omega) only [wpY_step, nI_clamp, vp_in_nI, nI_1, nI_add, mb_lt_t, mb_lt_f, mb_le_t, mb_le_f, mb_ne, mb_lt0, mb_le0, mb_m1, mb_m1l, mb_m1g, mb_m1n, mb_x2, mb_x4, mb_x32, mb_lt_4, mb_le_4, mb_ge_4, mb_gt_4, mb_le_3, mb_gt_3, mb_le_7, mb_gt_7, mb_lt_32, mb_ge_32, mb_lt_128, mb_ge_128, mb_ge_1, mb_lt_1, mb_ge_1f, mb_lt_1t, not_true, not_false_iff, false_implies, true_implies, true_and, and_true, forall_eq, forall_const, eq_self, mb_e10, mb_e01, mb_e02, mb_e03, mb_e04, mb_e05, mb_e06, mb_e07, mb_l00, mb_l02, mb_g50, mb_g60, mb_e10, mb_e12, mb_e13, mb_e14, mb_e15, mb_e16, mb_e17, mb_l10, mb_l12, mb_g51, mb_g61, mb_e20, mb_e21, mb_e23, mb_e24, mb_e25, mb_e26, mb_e27, mb_l20, mb_l22, mb_g52, mb_g62, mb_e30, mb_e31, mb_e32, mb_e34, mb_e35, mb_e36, mb_e37, mb_l30, mb_l32, mb_g53, mb_g63, mb_e40, mb_e41, mb_e42, mb_e43, mb_e45, mb_e46, mb_e47, mb_l40, mb_l42, mb_g54, mb_g64, mb_e50, mb_e51, mb_e52, mb_e53, mb_e54, mb_e56, mb_e57, mb_l50, mb_l52, mb_g55, mb_g65, mb_e60, mb_e61, mb_e62, mb_e63, mb_e64, mb_e65, mb_e67, mb_l60, mb_l62, mb_g56, mb_g66, mb_e70, mb_e71, mb_e72, mb_e73, mb_e74, mb_e75, mb_e76, mb_l70, mb_l72, mb_g57, mb_g67, eq, e1, e2, e3]
        refine my_mk (by omega) ?_
        simp (disch := omega) only [nI_clamp, vp_in_nI, nI_1, nI_add, mb_lt_t, mb_lt_f, mb_le_t, mb_le_f, mb_ne, mb_lt0, mb_le0, mb_m1, mb_m1l, mb_m1g, mb_m1n, mb_x2, mb_x4, mb_x32, mb_lt_4, mb_le_4, mb_ge_4, mb_gt_4, mb_le_3, mb_gt_3, mb_le_7, mb_gt_7, mb_lt_32, mb_ge_32, mb_lt_128, mb_ge_128, mb_ge_1, mb_lt_1, mb_ge_1f, mb_lt_1t, not_true, not_false_iff, false_implies, true_implies, true_and, and_true, forall_eq, forall_const, eq_self, mb_e10]
        exact K
    · refine ⟨c, kd, hm, lk, ht, sl, rev, regs, path, hx, he, flt, -4, 3, ⟨H, hn8, hp8, hp, hP, hF, hR, hG⟩, by omega, Or.inr ⟨by omega, by decide⟩, ?_, ?_⟩
      · intro post K
        simp (disch := omega) only [wpX_execute, nI_clamp, vp_in_nI, nI_1, nI_add, mb_lt_t, mb_lt_f, mb_le_t, mb_le_f, mb_ne, mb_lt0, mb_le0, mb_m1, mb_m1l, mb_m1g, mb_m1n, mb_x2, mb_x4, mb_x32, mb_lt_4, mb_le_4, mb_ge_4, mb_gt_4, mb_le_3, mb_gt_3, mb_le_7, mb_gt_7, mb_lt_32, mb_ge_32, mb_lt_128, mb_ge_128, mb_ge_1, mb_lt_1, mb_ge_1f, mb_lt_1t, not_true, not_false_iff, false_implies, true_implies, true_and, and_true, forall_eq, forall_const, eq_self, mb_e10, mb_e01, mb_e02, mb_e03, mb_e04, mb_e05, mb_e06, mb_e07, mb_l00, mb_l02, mb_g50, mb_g60, mb_e10, mb_e12, mb_e13, mb_e14, mb_e15, mb_e16, mb_e17, mb_l10, mb_l12, mb_g51, mb_g61, mb_e20, mb_e21, mb_e23, mb_e24, mb_e25, mb_e26, mb_e27, mb_l20, mb_l22, mb_g52, mb_g62, mb_e30, mb_e31, mb_e32, mb_e34, mb_e35, mb_e36, mb_e37, mb_l30, mb_l32, mb_g53, mb_g63, mb_e40, mb_e41, mb_e42, mb_e43, mb_e45, mb_e46, mb_e47, mb_l40, mb_l42, mb_g54, mb_g64, mb_e50, mb_e51, mb_e52, mb_e53, mb_e54, mb_e56, mb_e57, mb_l50, mb_l52, mb_g55, mb_g65, mb_e60, mb_e61, mb_e62, mb_e63, mb_e64, mb_e65, mb_e67, mb_l60, mb_l62, mb_g56, mb_g66, mb_e70, mb_e71, mb_e72, mb_e73, mb_e74, mb_e75, mb_e76, mb_l70, mb_l72, mb_g57, mb_g67]
        exact mx_full (by omega) (by omega) (mx_fl (by decide) K)
      · intro post K
        simp (disch := omega) only [wpY_step, nI_clamp, vp_in_nI, nI_1, nI_add, mb_lt_t, mb_lt_f, mb_le_t, mb_le_f, mb_ne, mb_lt0, mb_le0, mb_m1, mb_m1l, mb_m1g, mb_m1n, mb_x2, mb_x4, mb_x32, mb_lt_4, mb_le_4, mb_ge_4, mb_gt_4, mb_le_3, mb_gt_3, mb_le_7, mb_gt_7, mb_lt_32, mb_ge_32, mb_lt_128, mb_ge_128, mb_ge_1, mb_lt_1, mb_ge_1f, mb_lt_1t, not_true, not_false_iff, false_implies, true_implies, true_and, and_true, forall_eq, forall_const, eq_self, mb_e10, mb_e01, mb_e02, mb_e03, mb_e04, mb_e05, mb_e06, mb_e07, mb_l00, mb_l02, mb_g50, mb_g60, mb_e10, mb_e12, mb_e13, mb_e14, mb_e15, mb_e16, mb_e17, mb_l10, mb_l12, mb_g51, mb_g61, mb_e20, mb_e21, mb_e23, mb_e24, mb_e25, mb_e26, mb_e27, mb_l20, mb_l22, mb_g52, mb_g62, mb_e30, mb_e31, mb_e32, mb_e34, mb_e35, mb_e36, mb_e37, mb_l30, mb_l32, mb_g53, mb_g63, mb_e40, mb_e41, mb_e42, mb_e43, mb_e45, mb_e46, mb_e47, mb_l40, mb_l42, mb_g54, mb_g64, mb_e50, mb_e51, mb_e52, mb_e53, mb_e54, mb_e56, mb_e57, mb_l50, mb_l52, mb_g55, mb_g65, mb_e60, mb_e61, mb_e62, mb_e63, mb_e64, mb_e65, mb_e67, mb_l60, mb_l62, mb_g56, mb_g66, mb_e70, mb_e71, mb_e72, mb_e73, mb_e74, mb_e75, mb_e76, mb_l70, mb_l72, mb_g57, mb_g67, eq, e1, e2, e3]
        exact K
  · -- MOV
    refine ⟨c, kd, hm, lk, ht, sl, rev, upd regs (d * 4 + x) (regs (d * 4 + y)), path, hx, he, flt, regs (d * 4 + y), 0, ⟨H, hn8, hp8, hp, hP, mb_F_reg hF hd h1 _, mb_R_set hR _ ry, hG⟩, by omega, Or.inl ⟨rfl, (mb_ref_le ry (by omega)).1⟩, ?_, ?_⟩
    · intro post K
      simp (disch := omega) only [wpX_execute, nI_clamp, vp_in_nI, nI_1, nI_add, mb_lt_t, mb_lt_f, mb_le_t, mb_le_f, mb_ne, mb_lt0, mb_le0, mb_m1, mb_m1l, mb_m1g, mb_m1n, mb_x2, mb_x4, mb_x32, mb_lt_4, mb_le_4, mb_ge_4, mb_gt_4, mb_le_3, mb_gt_3, mb_le_7, mb_gt_7, mb_lt_32, mb_ge_32, mb_lt_128, mb_ge_128, mb_ge_1, mb_lt_1, mb_ge_1f, mb_lt_1t, not_true, not_false_iff, false_implies, true_implies, true_and, and_true, forall_eq, forall_const, eq_self, mb_e10, mb_e01, mb_e02, mb_e03, mb_e04, mb_e05, mb_e06, mb_e07, mb_l00, mb_l02, mb_g50, mb_g60, mb_e10, mb_e12, mb_e13, mb_e14, mb_e15, mb_e16, mb_e17, mb_l10, mb_l12, mb_g51, mb_g61, mb_e20, mb_e21, mb_e23, mb_e24, mb_e25, mb_e26, mb_e27, mb_l20, mb_l22, mb_g52, mb_g62, mb_e30, mb_e31, mb_e32, mb_e34, mb_e35, mb_e36, mb_e37, mb_l30, mb_l32, mb_g53, mb_g63, mb_e40, mb_e41, mb_e42, mb_e43, mb_e45, mb_e46, mb_e47, mb_l40, mb_l42, mb_g54, mb_g64, mb_e50, mb_e51, mb_e52, mb_e53, mb_e54, mb_e56, mb_e57, mb_l50, mb_l52, mb_g55, mb_g65, mb_e60, mb_e61, mb_e62, mb_e63, mb_e64, mb_e65, mb_e67, mb_l60, mb_l62, mb_g56, mb_g66, mb_e70, mb_e71, mb_e72, mb_e73, mb_e74, mb_e75, mb_e76, mb_l70, mb_l72, mb_g57, mb_g67]
      exact mx_ok (by omega) (mb_ref_le ry (by omega)).1 K
    · intro post K
      simp (disch := omega) only [wpY_step, nI_clamp, vp_in_nI, nI_1, nI_add, mb_lt_t, mb_lt_f, mb_le_t, mb_le_f, mb_ne, mb_lt0, mb_le0, mb_m1, mb_m1l, mb_m1g, mb_m1n, mb_x2, mb_x4, mb_x32, mb_lt_4, mb_le_4, mb_ge_4, mb_gt_4, mb_le_3, mb_gt_3, mb_le_7, mb_gt_7, mb_lt_32, mb_ge_32, mb_lt_128, mb_ge_128, mb_ge_1, mb_lt_1, mb_ge_1f, mb_lt_1t, not_true, not_false_iff, false_implies, true_implies, true_and, and_true, forall_eq, forall_const, eq_self, mb_e10, mb_e01, mb_e02, mb_e03, mb_e04, mb_e05, mb_e06, mb_e07, mb_l00, mb_l02, mb_g50, mb_g60, mb_e10, mb_e12, mb_e13, mb_e14, mb_e15, mb_e16, mb_e17, mb_l10, mb_l12, mb_g51, mb_g61, mb_e20, mb_e21, mb_e23, mb_e24, mb_e25, mb_e26, mb_e27, mb_l20, mb_l22, mb_g52, mb_g62, mb_e30, mb_e31, mb_e32, mb_e34, mb_e35, mb_e36, mb_e37, mb_l30, mb_l32, mb_g53, mb_g63, mb_e40, mb_e41, mb_e42, mb_e43, mb_e45, mb_e46, mb_e47, mb_l40, mb_l42, mb_g54, mb_g64, mb_e50, mb_e51, mb_e52, mb_e53, mb_e54, mb_e56, mb_e57, mb_l50, mb_l52, mb_g55, mb_g65, mb_e60, mb_e61, mb_e62, mb_e63, mb_e64, mb_e65, mb_e67, mb_l60, mb_l62, mb_g56, mb_g66, mb_e70, mb_e71, mb_e72, mb_e73, mb_e74, mb_e75, mb_e76, mb_l70, mb_l72, mb_g57, mb_g67, eq, e1, e2, e3]
      exact K
  · -- GET0
    obtain ⟨c', kd', hm', lk', ht', sl', rev', path', hx', he', rX, rY, flt', H2, E2, V2, A2, iX, iY⟩ := mb_invoke H (Or.inl z) ry hd (Or.inl rfl) rev ht path hx he
    rcases A2 with ⟨rfl, rfl, hr⟩ | ⟨e, a1, a2, rfl, rfl⟩
    · have hle := (mb_ref_le hr (Nat.le_trans H2.1 H2.2.1)).1
      refine ⟨c', kd', hm', lk', ht', sl', rev', upd regs (d * 4 + x) rY, path', hx', he', 0, rY, 0, ⟨H2, hn8, hp8, hp, hP, mb_F_reg (mb_F_V hF V2) hd h1 _, mb_R_set (mb_R_up hR E2.1) _ hr, hG⟩, by omega, Or.inl ⟨rfl, hle⟩, ?_, ?_⟩
      · intro post K
        exact mx_get (Or.inl z) (by omega) h1 h2 rfl (fun post' K' => iX p par st pcs regs plen pop px py post' K') (mx_ok (by omega) hle K)
      · intro post K
        exact my_get (Or.inl z) (by omega) hq h1 h2 eq e1 e2 e3 rfl (fun post' K' => iY flt p par regs pop px py plen pcs st post' K') (fun _ => K) (fun h => absurd rfl h)
    · refine ⟨c', kd', hm', lk', ht', sl', rev', regs, path', hx', he', nI e, -1 - nI e, e, ⟨H2, hn8, hp8, hp, hP, mb_F_V hF V2, mb_R_up hR E2.1, hG⟩, a2, Or.inr ⟨a1, rfl⟩, ?_, ?_⟩
      · intro post K
        exact mx_get (Or.inl z) (by omega) h1 h2 rfl (fun post' K' => iX p par st pcs regs plen pop px py post' K') (mx_fl (mb_nle e a2 a1) K)
      · intro post K
        exact my_get (Or.inl z) (by omega) hq h1 h2 eq e1 e2 e3 rfl (fun post' K' => iY flt p par regs pop px py plen pcs st post' K') (fun h => absurd h (nI_ne0 (by omega) (by omega))) (fun _ => K)
  · -- GET1
    obtain ⟨c', kd', hm', lk', ht', sl', rev', path', hx', he', rX, rY, flt', H2, E2, V2, A2, iX, iY⟩ := mb_invoke H (Or.inr (Or.inl z)) ry hd (Or.inl rfl) rev ht path hx he
    rcases A2 with ⟨rfl, rfl, hr⟩ | ⟨e, a1, a2, rfl, rfl⟩
    · have hle := (mb_ref_le hr (Nat.le_trans H2.1 H2.2.1)).1
      refine ⟨c', kd', hm', lk', ht', sl', rev', upd regs (d * 4 + x) rY, path', hx', he', 0, rY, 0, ⟨H2, hn8, hp8, hp, hP, mb_F_reg (mb_F_V hF V2) hd h1 _, mb_R_set (mb_R_up hR E2.1) _ hr, hG⟩, by omega, Or.inl ⟨rfl, hle⟩, ?_, ?_⟩
      · intro post K
        exact mx_get (Or.inr z) (by omega) h1 h2 rfl (fun post' K' => iX p par st pcs regs plen pop px py post' K') (mx_ok (by omega) hle K)
      · intro post K
        exact my_get (Or.inr z) (by omega) hq h1 h2 eq e1 e2 e3 rfl (fun post' K' => iY flt p par regs pop px py plen pcs st post' K') (fun _ => K) (fun h => absurd rfl h)
    · refine ⟨c', kd', hm', lk', ht', sl', rev', regs, path', hx', he', nI e, -1 - nI e, e, ⟨H2, hn8, hp8, hp, hP, mb_F_V hF V2, mb_R_up hR E2.1, hG⟩, a2, Or.inr ⟨a1, rfl⟩, ?_, ?_⟩
      · intro post K
        exact mx_get (Or.inr z) (by omega) h1 h2 rfl (fun post' K' => iX p par st pcs regs plen pop px py post' K') (mx_fl (mb_nle e a2 a1) K)
      · intro post K
        exact my_get (Or.inr z) (by omega) hq h1 h2 eq e1 e2 e3 rfl (fun post' K' => iY flt p par regs pop px py plen pcs st post' K') (fun h => absurd h (nI_ne0 (by omega) (by omega))) (fun _ => K)
  · -- SET0
    obtain ⟨c', kd', hm', lk', ht', sl', rev', path', hx', he', rX, rY, flt', H2, E2, V2, A2, iX, iY⟩ := mb_invoke H (Or.inr (Or.inr (Or.inl z))) rx hd ry rev ht path hx he
    rcases A2 with ⟨rfl, rfl, hr⟩ | ⟨e, a1, a2, rfl, rfl⟩
    · refine ⟨c', kd', hm', lk', ht', sl', rev', regs, path', hx', he', 0, rY, 0, ⟨H2, hn8, hp8, hp, hP, mb_F_V hF V2, mb_R_up hR E2.1, hG⟩, by omega, Or.inl ⟨rfl, (mb_ref_le hr (Nat.le_trans H2.1 H2.2.1)).1⟩, ?_, ?_⟩
      · intro post K
        exact mx_put (Or.inl z) (by omega) h1 h2 rfl rfl (fun post' K' => iX p par st pcs regs plen pop px py post' K') K
      · intro post K
        exact my_put (Or.inl z) (by omega) hq h1 h2 eq e1 e2 e3 rfl rfl (fun post' K' => iY flt p par regs pop px py plen pcs st post' K') K
    · refine ⟨c', kd', hm', lk', ht', sl', rev', regs, path', hx', he', nI e, -1 - nI e, e, ⟨H2, hn8, hp8, hp, hP, mb_F_V hF V2, mb_R_up hR E2.1, hG⟩, a2, Or.inr ⟨a1, rfl⟩, ?_, ?_⟩
      · intro post K
        exact mx_put (Or.inl z) (by omega) h1 h2 rfl rfl (fun post' K' => iX p par st pcs regs plen pop px py post' K') K
      · intro post K
        exact my_put (Or.inl z) (by omega) hq h1 h2 eq e1 e2 e3 rfl rfl (fun post' K' => iY flt p par regs pop px py plen pcs st post' K') K
  · -- SET1
    obtain ⟨c', kd', hm', lk', ht', sl', rev', path', hx', he', rX, rY, flt', H2, E2, V2, A2, iX, iY⟩ := mb_invoke H (Or.inr (Or.inr (Or.inr (Or.inl z)))) rx hd ry rev ht path hx he
    rcases A2 with ⟨rfl, rfl, hr⟩ | ⟨e, a1, a2, rfl, rfl⟩
    · refine ⟨c', kd', hm', lk', ht', sl', rev', regs, path', hx', he', 0, rY, 0, ⟨H2, hn8, hp8, hp, hP, mb_F_V hF V2, mb_R_up hR E2.1, hG⟩, by omega, Or.inl ⟨rfl, (mb_ref_le hr (Nat.le_trans H2.1 H2.2.1)).1⟩, ?_, ?_⟩
      · intro post K
        exact mx_put (Or.inr z) (by omega) h1 h2 rfl rfl (fun post' K' => iX p par st pcs regs plen pop px py post' K') K
      · intro post K
        exact my_put (Or.inr z) (by omega) hq h1 h2 eq e1 e2 e3 rfl rfl (fun post' K' => iY flt p par regs pop px py plen pcs st post' K') K
    · refine ⟨c', kd', hm', lk', ht', sl', rev', regs, path', hx', he', nI e, -1 - nI e, e, ⟨H2, hn8, hp8, hp, hP, mb_F_V hF V2, mb_R_up hR E2.1, hG⟩, a2, Or.inr ⟨a1, rfl⟩, ?_, ?_⟩
      · intro post K
        exact mx_put (Or.inr z) (by omega) h1 h2 rfl rfl (fun post' K' => iX p par st pcs regs plen pop px py post' K') K
      · intro post K
        exact my_put (Or.inr z) (by omega) hq h1 h2 eq e1 e2 e3 rfl rfl (fun post' K' => iY flt p par regs pop px py plen pcs st post' K') K
  · -- POKE
    obtain ⟨c', kd', hm', lk', ht', sl', rev', path', hx', he', rX, rY, flt', H2, E2, V2, A2, iX, iY⟩ := mb_invoke H (Or.inr (Or.inr (Or.inr (Or.inr rfl)))) rx hd (Or.inl rfl) rev ht path hx he
    rcases A2 with ⟨rfl, rfl, hr⟩ | ⟨e, a1, a2, rfl, rfl⟩
    · refine ⟨c', kd', hm', lk', ht', sl', rev', regs, path', hx', he', 0, rY, 0, ⟨H2, hn8, hp8, hp, hP, mb_F_V hF V2, mb_R_up hR E2.1, hG⟩, by omega, Or.inl ⟨rfl, (mb_ref_le hr (Nat.le_trans H2.1 H2.2.1)).1⟩, ?_, ?_⟩
      · intro post K
        exact mx_poke (by omega) h1 h2 rfl (fun post' K' => iX p par st pcs regs plen pop px py post' K') K
      · intro post K
        exact my_poke (by omega) hq h1 h2 eq e1 e2 e3 rfl (fun post' K' => iY flt p par regs pop px py plen pcs st post' K') K
    · refine ⟨c', kd', hm', lk', ht', sl', rev', regs, path', hx', he', nI e, -1 - nI e, e, ⟨H2, hn8, hp8, hp, hP, mb_F_V hF V2, mb_R_up hR E2.1, hG⟩, a2, Or.inr ⟨a1, rfl⟩, ?_, ?_⟩
      · intro post K
        exact mx_poke (by omega) h1 h2 rfl (fun post' K' => iX p par st pcs regs plen pop px py post' K') K
      · intro post K
        exact my_poke (by omega) hq h1 h2 eq e1 e2 e3 rfl (fun post' K' => iY flt p par regs pop px py plen pcs st post' K') K
  · -- DROP
    refine ⟨c, kd, hm, lk, ht, sl, rev, upd regs (d * 4 + x) (-1), path, hx, he, flt, -1, 0, ⟨H, hn8, hp8, hp, hP, mb_F_reg hF hd h1 _, mb_R_set hR _ (Or.inl rfl), hG⟩, by omega, Or.inl ⟨rfl, by decide⟩, ?_, ?_⟩
    · intro post K
      simp (disch := omega) only [wpX_execute, nI_clamp, vp_in_nI, nI_1, nI_add, mb_lt_t, mb_lt_f, mb_le_t, mb_le_f, mb_ne, mb_lt0, mb_le0, mb_m1, mb_m1l, mb_m1g, mb_m1n, mb_x2, mb_x4, mb_x32, mb_lt_4, mb_le_4, mb_ge_4, mb_gt_4, mb_le_3, mb_gt_3, mb_le_7, mb_gt_7, mb_lt_32, mb_ge_32, mb_lt_128, mb_ge_128, mb_ge_1, mb_lt_1, mb_ge_1f, mb_lt_1t, not_true, not_false_iff, false_implies, true_implies, true_and, and_true, forall_eq, forall_const, eq_self, mb_e10, mb_e01, mb_e02, mb_e03, mb_e04, mb_e05, mb_e06, mb_e07, mb_l00, mb_l02, mb_g50, mb_g60, mb_e10, mb_e12, mb_e13, mb_e14, mb_e15, mb_e16, mb_e17, mb_l10, mb_l12, mb_g51, mb_g61, mb_e20, mb_e21, mb_e23, mb_e24, mb_e25, mb_e26, mb_e27, mb_l20, mb_l22, mb_g52, mb_g62, mb_e30, mb_e31, mb_e32, mb_e34, mb_e35, mb_e36, mb_e37, mb_l30, mb_l32, mb_g53, mb_g63, mb_e40, mb_e41, mb_e42, mb_e43, mb_e45, mb_e46, mb_e47, mb_l40, mb_l42, mb_g54, mb_g64, mb_e50, mb_e51, mb_e52, mb_e53, mb_e54, mb_e56, mb_e57, mb_l50, mb_l52, mb_g55, mb_g65, mb_e60, mb_e61, mb_e62, mb_e63, mb_e64, mb_e65, mb_e67, mb_l60, mb_l62, mb_g56, mb_g66, mb_e70, mb_e71, mb_e72, mb_e73, mb_e74, mb_e75, mb_e76, mb_l70, mb_l72, mb_g57, mb_g67]
      exact mx_ok (by omega) (by decide) K
    · intro post K
      simp (disch := omega) only [wpY_step, nI_clamp, vp_in_nI, nI_1, nI_add, mb_lt_t, mb_lt_f, mb_le_t, mb_le_f, mb_ne, mb_lt0, mb_le0, mb_m1, mb_m1l, mb_m1g, mb_m1n, mb_x2, mb_x4, mb_x32, mb_lt_4, mb_le_4, mb_ge_4, mb_gt_4, mb_le_3, mb_gt_3, mb_le_7, mb_gt_7, mb_lt_32, mb_ge_32, mb_lt_128, mb_ge_128, mb_ge_1, mb_lt_1, mb_ge_1f, mb_lt_1t, not_true, not_false_iff, false_implies, true_implies, true_and, and_true, forall_eq, forall_const, eq_self, mb_e10, mb_e01, mb_e02, mb_e03, mb_e04, mb_e05, mb_e06, mb_e07, mb_l00, mb_l02, mb_g50, mb_g60, mb_e10, mb_e12, mb_e13, mb_e14, mb_e15, mb_e16, mb_e17, mb_l10, mb_l12, mb_g51, mb_g61, mb_e20, mb_e21, mb_e23, mb_e24, mb_e25, mb_e26, mb_e27, mb_l20, mb_l22, mb_g52, mb_g62, mb_e30, mb_e31, mb_e32, mb_e34, mb_e35, mb_e36, mb_e37, mb_l30, mb_l32, mb_g53, mb_g63, mb_e40, mb_e41, mb_e42, mb_e43, mb_e45, mb_e46, mb_e47, mb_l40, mb_l42, mb_g54, mb_g64, mb_e50, mb_e51, mb_e52, mb_e53, mb_e54, mb_e56, mb_e57, mb_l50, mb_l52, mb_g55, mb_g65, mb_e60, mb_e61, mb_e62, mb_e63, mb_e64, mb_e65, mb_e67, mb_l60, mb_l62, mb_g56, mb_g66, mb_e70, mb_e71, mb_e72, mb_e73, mb_e74, mb_e75, mb_e76, mb_l70, mb_l72, mb_g57, mb_g67, eq, e1, e2, e3]
      exact K
end
end
section
section
variable {n p nd c c' : Nat} {par rev st pcs regs plen pop px py kd hm lk ht sl path hx he kd' hm' lk' ht' sl' rev' regs' path' hx' he' : Nat → Int32} {flt flt' steps rX : Int32}
theorem mx_rstop {post : Int32 → SX → Prop} {m z d l q : Nat} (hd : d < 4) (el : plen d = nI l) (eq : pcs d = nI q) (hl : l ≤ 32) (hq : q ≤ 32) (h : steps ≤ nI z ∨ l ≤ q) (K : post (nI z) (nI n, nI p, nI nd, nI c, par, rev, st, pcs, regs, plen, pop, px, py, kd, hm, lk, ht, sl, path)) : wX_run_21 post (nI d) steps (m + 1) (nI z) (nI n) (nI p) (nI nd) (nI c) par rev st pcs regs plen pop px py kd hm lk ht sl path := by
  by_cases s : steps ≤ nI z
  · exact br_t s K
  · have h' : l ≤ q := h.resolve_left s
    simp (disch := omega) only [wX_run_21, nI_clamp, vp_in_nI, nI_1, nI_add, mb_lt_t, mb_lt_f, mb_le_t, mb_le_f, mb_ne, mb_lt0, mb_le0, mb_m1, mb_m1l, mb_m1g, mb_m1n, mb_x2, mb_x4, mb_x32, mb_lt_4, mb_le_4, mb_ge_4, mb_gt_4, mb_le_3, mb_gt_3, mb_le_7, mb_gt_7, mb_lt_32, mb_ge_32, mb_lt_128, mb_ge_128, mb_ge_1, mb_lt_1, mb_ge_1f, mb_lt_1t, not_true, not_false_iff, false_implies, true_implies, true_and, and_true, forall_eq, forall_const, eq_self, mb_e10, s, el, eq]
    exact K
theorem my_rstop {post : Int32 → SY → Prop} {m z d l q : Nat} (hd : d < 4) (el : plen d = nI l) (eq : pcs d = nI q) (hl : l ≤ 32) (hq : q ≤ 32) (h : steps ≤ nI z ∨ l ≤ q) (K : post (nI z) (nI n, nI p, nI nd, nI c, flt, par, rev, regs, pop, px, py, plen, pcs, st, kd, hm, lk, mb_ev sl, mb_od sl, ht, hx, he)) : wY_run_25 post (nI d) steps (m + 1) (nI z) (nI n) (nI p) (nI nd) (nI c) flt par rev regs pop px py plen pcs st kd hm lk (mb_ev sl) (mb_od sl) ht hx he := by
  by_cases s : steps ≤ nI z
  · exact br_t s K
  · have h' : l ≤ q := h.resolve_left s
    simp (disch := omega) only [wY_run_25, nI_clamp, vp_in_nI, nI_1, nI_add, mb_lt_t, mb_lt_f, mb_le_t, mb_le_f, mb_ne, mb_lt0, mb_le0, mb_m1, mb_m1l, mb_m1g, mb_m1n, mb_x2, mb_x4, mb_x32, mb_lt_4, mb_le_4, mb_ge_4, mb_gt_4, mb_le_3, mb_gt_3, mb_le_7, mb_gt_7, mb_lt_32, mb_ge_32, mb_lt_128, mb_ge_128, mb_ge_1, mb_lt_1, mb_ge_1f, mb_lt_1t, not_true, not_false_iff, false_implies, true_implies, true_and, and_true, forall_eq, forall_const, eq_self, mb_e10, s, el, eq]
    exact K
theorem mx_rgo {post : Int32 → SX → Prop} {m z d l q o x y : Nat} (hd : d < 4) (el : plen d = nI l) (eq : pcs d = nI q) (hl : l ≤ 32) (hq : q < l) (s : ¬ steps ≤ nI z)
    (e1 : pop (d * 32 + q) = nI o) (e2 : px (d * 32 + q) = nI x) (e3 : py (d * 32 + q) = nI y)
    (iX : ∀ post' : Int32 → SX → Prop, post' rX (nI n, nI p, nI nd, nI c', par, rev', st, pcs, regs', plen, pop, px, py, kd', hm', lk', ht', sl', path') → wpX_execute post' (nI n, nI p, nI nd, nI c, par, rev, st, pcs, regs, plen, pop, px, py, kd, hm, lk, ht, sl, path) (nI d) (nI o) (nI x) (nI y)) (nf : -1 ≤ rX)
    (K : wX_run_21 post (nI d) steps m (nI (z + 1)) (nI n) (nI p) (nI nd) (nI c') par rev' st (upd pcs d (nI (q + 1))) regs' plen pop px py kd' hm' lk' ht' sl' path') : wX_run_21 post (nI d) steps (m + 1) (nI z) (nI n) (nI p) (nI nd) (nI c) par rev st pcs regs plen pop px py kd hm lk ht sl path := by
  simp (disch := omega) only [wX_run_21, nI_clamp, vp_in_nI, nI_1, nI_add, mb_lt_t, mb_lt_f, mb_le_t, mb_le_f, mb_ne, mb_lt0, mb_le0, mb_m1, mb_m1l, mb_m1g, mb_m1n, mb_x2, mb_x4, mb_x32, mb_lt_4, mb_le_4, mb_ge_4, mb_gt_4, mb_le_3, mb_gt_3, mb_le_7, mb_gt_7, mb_lt_32, mb_ge_32, mb_lt_128, mb_ge_128, mb_ge_1, mb_lt_1, mb_ge_1f, mb_lt_1t, not_true, not_false_iff, false_implies, true_implies, true_and, and_true, forall_eq, forall_const, eq_self, mb_e10, s, el, eq, e1, e2, e3]
  refine iX _ ?_
  simp (disch := omega) only [wpX_isFault, nI_clamp, vp_in_nI, nI_1, nI_add, mb_lt_t, mb_lt_f, mb_le_t, mb_le_f, mb_ne, mb_lt0, mb_le0, mb_m1, mb_m1l, mb_m1g, mb_m1n, mb_x2, mb_x4, mb_x32, mb_lt_4, mb_le_4, mb_ge_4, mb_gt_4, mb_le_3, mb_gt_3, mb_le_7, mb_gt_7, mb_lt_32, mb_ge_32, mb_lt_128, mb_ge_128, mb_ge_1, mb_lt_1, mb_ge_1f, mb_lt_1t, not_true, not_false_iff, false_implies, true_implies, true_and, and_true, forall_eq, forall_const, eq_self, mb_e10, nf, eq]
  exact K
theorem mx_rfl {post : Int32 → SX → Prop} {m z d l q o x y e : Nat} (hd : d < 4) (el : plen d = nI l) (eq : pcs d = nI q) (hl : l ≤ 32) (hq : q < l) (s : ¬ steps ≤ nI z)
    (e1 : pop (d * 32 + q) = nI o) (e2 : px (d * 32 + q) = nI x) (e3 : py (d * 32 + q) = nI y)
    (iX : ∀ post' : Int32 → SX → Prop, post' (-1 - nI e) (nI n, nI p, nI nd, nI c', par, rev', st, pcs, regs', plen, pop, px, py, kd', hm', lk', ht', sl', path') → wpX_execute post' (nI n, nI p, nI nd, nI c, par, rev, st, pcs, regs, plen, pop, px, py, kd, hm, lk, ht, sl, path) (nI d) (nI o) (nI x) (nI y)) (h1 : 1 ≤ e) (h3 : e ≤ 3)
    (K : post (nI z) (nI n, nI p, nI nd, nI c', par, rev', (upd st d (nI e)), pcs, regs', plen, pop, px, py, kd', hm', lk', ht', sl', path')) : wX_run_21 post (nI d) steps (m + 1) (nI z) (nI n) (nI p) (nI nd) (nI c) par rev st pcs regs plen pop px py kd hm lk ht sl path := by
  simp (disch := omega) only [wX_run_21, nI_clamp, vp_in_nI, nI_1, nI_add, mb_lt_t, mb_lt_f, mb_le_t, mb_le_f, mb_ne, mb_lt0, mb_le0, mb_m1, mb_m1l, mb_m1g, mb_m1n, mb_x2, mb_x4, mb_x32, mb_lt_4, mb_le_4, mb_ge_4, mb_gt_4, mb_le_3, mb_gt_3, mb_le_7, mb_gt_7, mb_lt_32, mb_ge_32, mb_lt_128, mb_ge_128, mb_ge_1, mb_lt_1, mb_ge_1f, mb_lt_1t, not_true, not_false_iff, false_implies, true_implies, true_and, and_true, forall_eq, forall_const, eq_self, mb_e10, s, el, eq, e1, e2, e3]
  refine iX _ ?_
  have nf := mb_nle e h3 h1
  have ne := mb_neg e h3
  simp (disch := omega) only [wpX_isFault, nI_clamp, vp_in_nI, nI_1, nI_add, mb_lt_t, mb_lt_f, mb_le_t, mb_le_f, mb_ne, mb_lt0, mb_le0, mb_m1, mb_m1l, mb_m1g, mb_m1n, mb_x2, mb_x4, mb_x32, mb_lt_4, mb_le_4, mb_ge_4, mb_gt_4, mb_le_3, mb_gt_3, mb_le_7, mb_gt_7, mb_lt_32, mb_ge_32, mb_lt_128, mb_ge_128, mb_ge_1, mb_lt_1, mb_ge_1f, mb_lt_1t, not_true, not_false_iff, false_implies, true_implies, true_and, and_true, forall_eq, forall_const, eq_self, mb_e10, nf, ne]
  exact K
theorem my_rgo {post : Int32 → SY → Prop} {m z d l q : Nat} (hd : d < 4) (el : plen d = nI l) (eq : pcs d = nI q) (hl : l ≤ 32) (hq : q < l) (s : ¬ steps ≤ nI z)
    (iY : ∀ post' : Int32 → SY → Prop, post' (nI 0) (nI n, nI p, nI nd, nI c', flt', par, rev', regs', pop, px, py, plen, pcs, st, kd', hm', lk', (mb_ev sl'), (mb_od sl'), ht', hx', he') → wpY_step post' (nI n, nI p, nI nd, nI c, flt, par, rev, regs, pop, px, py, plen, pcs, st, kd, hm, lk, mb_ev sl, mb_od sl, ht, hx, he) (nI d))
    (K : wY_run_25 post (nI d) steps m (nI (z + 1)) (nI n) (nI p) (nI nd) (nI c') flt' par rev' regs' pop px py plen (upd pcs d (nI (q + 1))) st kd' hm' lk' (mb_ev sl') (mb_od sl') ht' hx' he') : wY_run_25 post (nI d) steps (m + 1) (nI z) (nI n) (nI p) (nI nd) (nI c) flt par rev regs pop px py plen pcs st kd hm lk (mb_ev sl) (mb_od sl) ht hx he := by
  simp (disch := omega) only [wY_run_25, nI_clamp, vp_in_nI, nI_1, nI_add, mb_lt_t, mb_lt_f, mb_le_t, mb_le_f, mb_ne, mb_lt0, mb_le0, mb_m1, mb_m1l, mb_m1g, mb_m1n, mb_x2, mb_x4, mb_x32, mb_lt_4, mb_le_4, mb_ge_4, mb_gt_4, mb_le_3, mb_gt_3, mb_le_7, mb_gt_7, mb_lt_32, mb_ge_32, mb_lt_128, mb_ge_128, mb_ge_1, mb_lt_1, mb_ge_1f, mb_lt_1t, not_true, not_false_iff, false_implies, true_implies, true_and, and_true, forall_eq, forall_const, eq_self, mb_e10, s, el, eq]
  refine iY _ ?_
  simp (disch := omega) only [nI_clamp, vp_in_nI, nI_1, nI_add, mb_lt_t, mb_lt_f, mb_le_t, mb_le_f, mb_ne, mb_lt0, mb_le0, mb_m1, mb_m1l, mb_m1g, mb_m1n, mb_x2, mb_x4, mb_x32, mb_lt_4, mb_le_4, mb_ge_4, mb_gt_4, mb_le_3, mb_gt_3, mb_le_7, mb_gt_7, mb_lt_32, mb_ge_32, mb_lt_128, mb_ge_128, mb_ge_1, mb_lt_1, mb_ge_1f, mb_lt_1t, not_true, not_false_iff, false_implies, true_implies, true_and, and_true, forall_eq, forall_const, eq_self, mb_e10, nI_0, eq]
  exact K
theorem my_rfl {post : Int32 → SY → Prop} {m z d l q e : Nat} (hd : d < 4) (el : plen d = nI l) (eq : pcs d = nI q) (hl : l ≤ 32) (hq : q < l) (s : ¬ steps ≤ nI z)
    (iY : ∀ post' : Int32 → SY → Prop, post' (nI e) (nI n, nI p, nI nd, nI c', flt', par, rev', regs', pop, px, py, plen, pcs, st, kd', hm', lk', (mb_ev sl'), (mb_od sl'), ht', hx', he') → wpY_step post' (nI n, nI p, nI nd, nI c, flt, par, rev, regs, pop, px, py, plen, pcs, st, kd, hm, lk, mb_ev sl, mb_od sl, ht, hx, he) (nI d)) (h1 : 1 ≤ e) (h3 : e ≤ 3)
    (K : post (nI z) (nI n, nI p, nI nd, nI c', flt', par, rev', regs', pop, px, py, plen, pcs, (upd st d (nI e)), kd', hm', lk', (mb_ev sl'), (mb_od sl'), ht', hx', he')) : wY_run_25 post (nI d) steps (m + 1) (nI z) (nI n) (nI p) (nI nd) (nI c) flt par rev regs pop px py plen pcs st kd hm lk (mb_ev sl) (mb_od sl) ht hx he := by
  simp (disch := omega) only [wY_run_25, nI_clamp, vp_in_nI, nI_1, nI_add, mb_lt_t, mb_lt_f, mb_le_t, mb_le_f, mb_ne, mb_lt0, mb_le0, mb_m1, mb_m1l, mb_m1g, mb_m1n, mb_x2, mb_x4, mb_x32, mb_lt_4, mb_le_4, mb_ge_4, mb_gt_4, mb_le_3, mb_gt_3, mb_le_7, mb_gt_7, mb_lt_32, mb_ge_32, mb_lt_128, mb_ge_128, mb_ge_1, mb_lt_1, mb_ge_1f, mb_lt_1t, not_true, not_false_iff, false_implies, true_implies, true_and, and_true, forall_eq, forall_const, eq_self, mb_e10, s, el, eq]
  refine iY _ ?_
  simp (disch := omega) only [nI_clamp, vp_in_nI, nI_1, nI_add, mb_lt_t, mb_lt_f, mb_le_t, mb_le_f, mb_ne, mb_lt0, mb_le0, mb_m1, mb_m1l, mb_m1g, mb_m1n, mb_x2, mb_x4, mb_x32, mb_lt_4, mb_le_4, mb_ge_4, mb_gt_4, mb_le_3, mb_gt_3, mb_le_7, mb_gt_7, mb_lt_32, mb_ge_32, mb_lt_128, mb_ge_128, mb_ge_1, mb_lt_1, mb_ge_1f, mb_lt_1t, not_true, not_false_iff, false_implies, true_implies, true_and, and_true, forall_eq, forall_const, eq_self, mb_e10, nI_ne0]
  exact K
/-- run's loop: both sides in one outcome -/
theorem mb_run {d : Nat} (hd : d < nd) (steps : Int32) : ∀ (w c : Nat) (rev pcs regs kd hm lk ht sl path hx he : Nat → Int32) (flt : Int32) (l q z : Nat), mb_I n p nd c par rev st pcs regs plen pop px py kd hm lk sl →
    plen d = nI l → pcs d = nI q → l ≤ 32 → q ≤ l → l - q ≤ w →
    ∃ (c' : Nat) (kd' hm' lk' ht' sl' : Nat → Int32) (rev' st' pcs' regs' path' hx' he' : Nat → Int32) (flt' r : Int32), mb_I n p nd c' par rev' st' pcs' regs' plen pop px py kd' hm' lk' sl' ∧
      (∀ post : Int32 → SX → Prop, post r (nI n, nI p, nI nd, nI c', par, rev', st', pcs', regs', plen, pop, px, py, kd', hm', lk', ht', sl', path') → ∀ m, w < m → wX_run_21 post (nI d) steps m (nI z) (nI n) (nI p) (nI nd) (nI c) par rev st pcs regs plen pop px py kd hm lk ht sl path) ∧
      (∀ post : Int32 → SY → Prop, post r (nI n, nI p, nI nd, nI c', flt', par, rev', regs', pop, px, py, plen, pcs', st', kd', hm', lk', (mb_ev sl'), (mb_od sl'), ht', hx', he') → ∀ m, w < m → wY_run_25 post (nI d) steps m (nI z) (nI n) (nI p) (nI nd) (nI c) flt par rev regs pop px py plen pcs st kd hm lk (mb_ev sl) (mb_od sl) ht hx he) := by
  intro w
  induction w with
  | zero =>
    intro c rev pcs regs kd hm lk ht sl path hx he flt l q z I el eq hl hq hw
    have hnd : nd ≤ 4 := I.1.2.2.2.1
    refine ⟨c, kd, hm, lk, ht, sl, rev, st, pcs, regs, path, hx, he, flt, nI z, I, ?_, ?_⟩
    · intro post K m h
      obtain ⟨m, rfl⟩ : ∃ q, m = q + 1 := ⟨m - 1, by omega⟩
      exact mx_rstop (by omega) el eq hl (by omega) (Or.inr (by omega)) K
    · intro post K m h
      obtain ⟨m, rfl⟩ : ∃ q, m = q + 1 := ⟨m - 1, by omega⟩
      exact my_rstop (by omega) el eq hl (by omega) (Or.inr (by omega)) K
  | succ w ih =>
    intro c rev pcs regs kd hm lk ht sl path hx he flt l q z I el eq hl hq hw
    have hnd : nd ≤ 4 := I.1.2.2.2.1
    by_cases stop : steps ≤ nI z ∨ l ≤ q
    · refine ⟨c, kd, hm, lk, ht, sl, rev, st, pcs, regs, path, hx, he, flt, nI z, I, ?_, ?_⟩
      · intro post K m h
        obtain ⟨m, rfl⟩ : ∃ q, m = q + 1 := ⟨m - 1, by omega⟩
        exact mx_rstop (by omega) el eq hl (by omega) stop K
      · intro post K m h
        obtain ⟨m, rfl⟩ : ∃ q, m = q + 1 := ⟨m - 1, by omega⟩
        exact my_rstop (by omega) el eq hl (by omega) stop K
    · have s : ¬ steps ≤ nI z := fun z => stop (Or.inl z)
      have lq : q < l := Nat.lt_of_not_le (fun z => stop (Or.inr z))
      obtain ⟨l', q', g1, g2, g3, g4, g5⟩ := I.2.2.2.2.2.2.2 d (by omega)
      have hl' : l' = l := (nI_eq (by omega) (by omega)).mp (g3.symm.trans el)
      subst hl'
      obtain ⟨o, x, y, h0, h1, h2, e1, e2, e3⟩ := g5 q lq
      obtain ⟨c', kd', hm', lk', ht', sl', rev', regs', path', hx', he', flt', rX, e, I2, he3, A, iX, iY⟩ := mb_exec I hd (by omega) h0 h1 h2 eq e1 e2 e3 ht path hx he flt
      rcases A with ⟨rfl, nf⟩ | ⟨a1, rfl⟩
      · obtain ⟨H2, hn8, hp8, hp, hP, hF, hR, hG⟩ := I2
        obtain ⟨c2, kd2, hm2, lk2, ht2, sl2, rev2, st2, pcs2, regs2, path2, hx2, he2, flt2, r, I3, jX, jY⟩ := ih c' rev' (upd pcs d (nI (q + 1))) regs' kd' hm' lk' ht' sl' path' hx' he' flt' l' (q + 1) (z + 1) ⟨H2, hn8, hp8, hp, hP, mb_F_pc hF hd _, hR, mb_G_pc hG (by omega) el hl lq⟩ el pk_us hl lq (by omega)
        refine ⟨c2, kd2, hm2, lk2, ht2, sl2, rev2, st2, pcs2, regs2, path2, hx2, he2, flt2, r, I3, ?_, ?_⟩
        · intro post K m h
          obtain ⟨m, rfl⟩ : ∃ q, m = q + 1 := ⟨m - 1, by omega⟩
          exact mx_rgo (by omega) el eq hl lq s e1 e2 e3 iX nf (jX post K m (by omega))
        · intro post K m h
          obtain ⟨m, rfl⟩ : ∃ q, m = q + 1 := ⟨m - 1, by omega⟩
          exact my_rgo (by omega) el eq hl lq s iY (jY post K m (by omega))
      · obtain ⟨H2, hn8, hp8, hp, hP, hF, hR, hG⟩ := I2
        refine ⟨c', kd', hm', lk', ht', sl', rev', upd st d (nI e), pcs, regs', path', hx', he', flt', nI z, ⟨H2, hn8, hp8, hp, hP, mb_F_st hF hd _, hR, hG⟩, ?_, ?_⟩
        · intro post K m h
          obtain ⟨m, rfl⟩ : ∃ q, m = q + 1 := ⟨m - 1, by omega⟩
          exact mx_rfl (by omega) el eq hl lq s e1 e2 e3 iX a1 he3 K
        · intro post K m h
          obtain ⟨m, rfl⟩ : ∃ q, m = q + 1 := ⟨m - 1, by omega⟩
          exact my_rfl (by omega) el eq hl lq s iY a1 he3 K
end
end
section
section
def i_Rel (_ : Nat) (u : SX) (v : SY) : Prop := ∃ (n p nd c : Nat) (par rev st pcs regs plen pop px py kd hm lk ht sl path hx he : Nat → Int32) (flt : Int32),
  u = (nI n, nI p, nI nd, nI c, par, rev, st, pcs, regs, plen, pop, px, py, kd, hm, lk, ht, sl, path) ∧ v = (nI n, nI p, nI nd, nI c, flt, par, rev, regs, pop, px, py, plen, pcs, st, kd, hm, lk, mb_ev sl, mb_od sl, ht, hx, he) ∧ mb_I n p nd c par rev st pcs regs plen pop px py kd hm lk sl
theorem i_up {k : Nat} {u : SX} {v : SY} (h : i_Rel k u v) : i_Rel (k + 5) u v := h
variable {n p nd c : Nat} {par rev st pcs regs plen pop px py kd hm lk ht sl path hx he : Nat → Int32} {flt : Int32}
theorem mb_i {k : Nat} (h : mb_I n p nd c par rev st pcs regs plen pop px py kd hm lk sl) : i_Rel k (nI n, nI p, nI nd, nI c, par, rev, st, pcs, regs, plen, pop, px, py, kd, hm, lk, ht, sl, path) (nI n, nI p, nI nd, nI c, flt, par, rev, regs, pop, px, py, plen, pcs, st, kd, hm, lk, mb_ev sl, mb_od sl, ht, hx, he) :=
  ⟨n, p, nd, c, par, rev, st, pcs, regs, plen, pop, px, py, kd, hm, lk, ht, sl, path, hx, he, flt, rfl, rfl, h⟩
/-- a register's number, an op, a membrane's number -/
theorem mb_ix4 (x : Int32) : (x < 0 ∧ ¬ 0 ≤ x) ∨ (¬ x < 0 ∧ 0 ≤ x ∧ 4 ≤ x ∧ ¬ x < 4 ∧ ¬ x ≤ 3 ∧ 3 < x) ∨ ∃ j : Nat, j < 4 ∧ x = nI j := by
  rcases mb_ix x (n := 4) (by decide) with h | ⟨a, b, e, f⟩ | h
  · exact Or.inl h
  · have g : (3 : Int32) < x := Int32.lt_of_lt_of_le (by decide) e
    exact Or.inr (Or.inl ⟨a, b, e, f, Int32.not_le.mpr g, g⟩)
  · exact Or.inr (Or.inr h)
theorem mb_ix8 (x : Int32) : (x < 0 ∧ ¬ 0 ≤ x) ∨ (¬ x < 0 ∧ 0 ≤ x ∧ ¬ x ≤ 7 ∧ 7 < x) ∨ ∃ j : Nat, j < 8 ∧ x = nI j := by
  rcases mb_ix x (n := 8) (by decide) with h | ⟨a, b, e, f⟩ | h
  · exact Or.inl h
  · have g : (7 : Int32) < x := Int32.lt_of_lt_of_le (by decide) e
    exact Or.inr (Or.inl ⟨a, b, Int32.not_le.mpr g, g⟩)
  · exact Or.inr (Or.inr h)
theorem mb_ixm (x : Int32) {n : Nat} (hn : n < 2 ^ 31) : (x < 1) ∨ (¬ x < 1 ∧ nI n ≤ x ∧ ¬ x < nI n) ∨ ∃ j : Nat, 1 ≤ j ∧ j < n ∧ x = nI j := by
  rcases mb_ix x hn with ⟨h, -⟩ | ⟨a, b, e, f⟩ | ⟨j, hj, rfl⟩
  · exact Or.inl (Int32.lt_trans h (by decide))
  · by_cases z : x < 1
    · exact Or.inl z
    · exact Or.inr (Or.inl ⟨z, e, f⟩)
  · by_cases z : j = 0
    · subst z; exact Or.inl (by decide)
    · exact Or.inr (Or.inr ⟨j, by omega, hj, rfl⟩)
theorem i_vc_kind {k : Nat} {u : SX} {v : SY} (I : i_Rel k u v) (hk : k + 5 ≤ 2562) (v1 : Int32) : wpX_kind (fun r => wpY_kind (fun r' => r' = r ∧ i_Rel (k + 5) u v) v v1) u v1 := by
  obtain ⟨n, p, nd, c, par, rev, st, pcs, regs, plen, pop, px, py, kd, hm, lk, ht, sl, path, hx, he, flt, rfl, rfl, I⟩ := I
  obtain ⟨H, hn8, hp8, hp, hP, hF, hR, hG⟩ := id I
  have hn : n ≤ 32 := H.2.1
  have hcn : c ≤ n := H.1
  have hnd : nd ≤ 4 := H.2.2.2.1
  have hnd1 : 1 ≤ nd := H.2.2.1
  rcases mb_ix v1 (n := c) (by omega) with ⟨z1, z2⟩ | ⟨z1, z2, z3, z4⟩ | ⟨j, hj, rfl⟩
  · simp (disch := omega) only [wpX_kind, wpX_objectExists, wpY_kind, nI_clamp, vp_in_nI, nI_1, nI_add, mb_lt_t, mb_lt_f, mb_le_t, mb_le_f, mb_ne, mb_lt0, mb_le0, mb_m1, mb_m1l, mb_m1g, mb_m1n, mb_x2, mb_x4, mb_x32, mb_lt_4, mb_le_4, mb_ge_4, mb_gt_4, mb_le_3, mb_gt_3, mb_le_7, mb_gt_7, mb_lt_32, mb_ge_32, mb_lt_128, mb_ge_128, mb_ge_1, mb_lt_1, mb_ge_1f, mb_lt_1t, not_true, not_false_iff, false_implies, true_implies, true_and, and_true, forall_eq, forall_const, eq_self, mb_e10, z1, z2]
    exact mb_i I
  · simp (disch := omega) only [wpX_kind, wpX_objectExists, wpY_kind, nI_clamp, vp_in_nI, nI_1, nI_add, mb_lt_t, mb_lt_f, mb_le_t, mb_le_f, mb_ne, mb_lt0, mb_le0, mb_m1, mb_m1l, mb_m1g, mb_m1n, mb_x2, mb_x4, mb_x32, mb_lt_4, mb_le_4, mb_ge_4, mb_gt_4, mb_le_3, mb_gt_3, mb_le_7, mb_gt_7, mb_lt_32, mb_ge_32, mb_lt_128, mb_ge_128, mb_ge_1, mb_lt_1, mb_ge_1f, mb_lt_1t, not_true, not_false_iff, false_implies, true_implies, true_and, and_true, forall_eq, forall_const, eq_self, mb_e10, z1, z2, z3, z4]
    exact mb_i I
  · simp (disch := omega) only [wpX_kind, wpX_objectExists, wpY_kind, nI_clamp, vp_in_nI, nI_1, nI_add, mb_lt_t, mb_lt_f, mb_le_t, mb_le_f, mb_ne, mb_lt0, mb_le0, mb_m1, mb_m1l, mb_m1g, mb_m1n, mb_x2, mb_x4, mb_x32, mb_lt_4, mb_le_4, mb_ge_4, mb_gt_4, mb_le_3, mb_gt_3, mb_le_7, mb_gt_7, mb_lt_32, mb_ge_32, mb_lt_128, mb_ge_128, mb_ge_1, mb_lt_1, mb_ge_1f, mb_lt_1t, not_true, not_false_iff, false_implies, true_implies, true_and, and_true, forall_eq, forall_const, eq_self, mb_e10]
    exact mb_i I
theorem i_vc_home {k : Nat} {u : SX} {v : SY} (I : i_Rel k u v) (hk : k + 5 ≤ 2562) (v1 : Int32) : wpX_home (fun r => wpY_home (fun r' => r' = r ∧ i_Rel (k + 5) u v) v v1) u v1 := by
  obtain ⟨n, p, nd, c, par, rev, st, pcs, regs, plen, pop, px, py, kd, hm, lk, ht, sl, path, hx, he, flt, rfl, rfl, I⟩ := I
  obtain ⟨H, hn8, hp8, hp, hP, hF, hR, hG⟩ := id I
  have hn : n ≤ 32 := H.2.1
  have hcn : c ≤ n := H.1
  have hnd : nd ≤ 4 := H.2.2.2.1
  have hnd1 : 1 ≤ nd := H.2.2.1
  rcases mb_ix v1 (n := c) (by omega) with ⟨z1, z2⟩ | ⟨z1, z2, z3, z4⟩ | ⟨j, hj, rfl⟩
  · simp (disch := omega) only [wpX_home, wpX_objectExists, wpY_home, nI_clamp, vp_in_nI, nI_1, nI_add, mb_lt_t, mb_lt_f, mb_le_t, mb_le_f, mb_ne, mb_lt0, mb_le0, mb_m1, mb_m1l, mb_m1g, mb_m1n, mb_x2, mb_x4, mb_x32, mb_lt_4, mb_le_4, mb_ge_4, mb_gt_4, mb_le_3, mb_gt_3, mb_le_7, mb_gt_7, mb_lt_32, mb_ge_32, mb_lt_128, mb_ge_128, mb_ge_1, mb_lt_1, mb_ge_1f, mb_lt_1t, not_true, not_false_iff, false_implies, true_implies, true_and, and_true, forall_eq, forall_const, eq_self, mb_e10, z1, z2]
    exact mb_i I
  · simp (disch := omega) only [wpX_home, wpX_objectExists, wpY_home, nI_clamp, vp_in_nI, nI_1, nI_add, mb_lt_t, mb_lt_f, mb_le_t, mb_le_f, mb_ne, mb_lt0, mb_le0, mb_m1, mb_m1l, mb_m1g, mb_m1n, mb_x2, mb_x4, mb_x32, mb_lt_4, mb_le_4, mb_ge_4, mb_gt_4, mb_le_3, mb_gt_3, mb_le_7, mb_gt_7, mb_lt_32, mb_ge_32, mb_lt_128, mb_ge_128, mb_ge_1, mb_lt_1, mb_ge_1f, mb_lt_1t, not_true, not_false_iff, false_implies, true_implies, true_and, and_true, forall_eq, forall_const, eq_self, mb_e10, z1, z2, z3, z4]
    exact mb_i I
  · simp (disch := omega) only [wpX_home, wpX_objectExists, wpY_home, nI_clamp, vp_in_nI, nI_1, nI_add, mb_lt_t, mb_lt_f, mb_le_t, mb_le_f, mb_ne, mb_lt0, mb_le0, mb_m1, mb_m1l, mb_m1g, mb_m1n, mb_x2, mb_x4, mb_x32, mb_lt_4, mb_le_4, mb_ge_4, mb_gt_4, mb_le_3, mb_gt_3, mb_le_7, mb_gt_7, mb_lt_32, mb_ge_32, mb_lt_128, mb_ge_128, mb_ge_1, mb_lt_1, mb_ge_1f, mb_lt_1t, not_true, not_false_iff, false_implies, true_implies, true_and, and_true, forall_eq, forall_const, eq_self, mb_e10]
    exact mb_i I
theorem i_vc_link {k : Nat} {u : SX} {v : SY} (I : i_Rel k u v) (hk : k + 5 ≤ 2562) (v1 : Int32) : wpX_link (fun r => wpY_link (fun r' => r' = r ∧ i_Rel (k + 5) u v) v v1) u v1 := by
  obtain ⟨n, p, nd, c, par, rev, st, pcs, regs, plen, pop, px, py, kd, hm, lk, ht, sl, path, hx, he, flt, rfl, rfl, I⟩ := I
  obtain ⟨H, hn8, hp8, hp, hP, hF, hR, hG⟩ := id I
  have hn : n ≤ 32 := H.2.1
  have hcn : c ≤ n := H.1
  have hnd : nd ≤ 4 := H.2.2.2.1
  have hnd1 : 1 ≤ nd := H.2.2.1
  rcases mb_ix v1 (n := c) (by omega) with ⟨z1, z2⟩ | ⟨z1, z2, z3, z4⟩ | ⟨j, hj, rfl⟩
  · simp (disch := omega) only [wpX_link, wpX_objectExists, wpY_link, nI_clamp, vp_in_nI, nI_1, nI_add, mb_lt_t, mb_lt_f, mb_le_t, mb_le_f, mb_ne, mb_lt0, mb_le0, mb_m1, mb_m1l, mb_m1g, mb_m1n, mb_x2, mb_x4, mb_x32, mb_lt_4, mb_le_4, mb_ge_4, mb_gt_4, mb_le_3, mb_gt_3, mb_le_7, mb_gt_7, mb_lt_32, mb_ge_32, mb_lt_128, mb_ge_128, mb_ge_1, mb_lt_1, mb_ge_1f, mb_lt_1t, not_true, not_false_iff, false_implies, true_implies, true_and, and_true, forall_eq, forall_const, eq_self, mb_e10, z1, z2]
    exact mb_i I
  · simp (disch := omega) only [wpX_link, wpX_objectExists, wpY_link, nI_clamp, vp_in_nI, nI_1, nI_add, mb_lt_t, mb_lt_f, mb_le_t, mb_le_f, mb_ne, mb_lt0, mb_le0, mb_m1, mb_m1l, mb_m1g, mb_m1n, mb_x2, mb_x4, mb_x32, mb_lt_4, mb_le_4, mb_ge_4, mb_gt_4, mb_le_3, mb_gt_3, mb_le_7, mb_gt_7, mb_lt_32, mb_ge_32, mb_lt_128, mb_ge_128, mb_ge_1, mb_lt_1, mb_ge_1f, mb_lt_1t, not_true, not_false_iff, false_implies, true_implies, true_and, and_true, forall_eq, forall_const, eq_self, mb_e10, z1, z2, z3, z4]
    exact mb_i I
  · rcases (mb_H_ob H hj).2 with ⟨k1, l1⟩ | ⟨k1, -⟩ | ⟨k1, -⟩
    · simp (disch := omega) only [wpX_link, wpX_objectExists, wpY_link, nI_clamp, vp_in_nI, nI_1, nI_add, mb_lt_t, mb_lt_f, mb_le_t, mb_le_f, mb_ne, mb_lt0, mb_le0, mb_m1, mb_m1l, mb_m1g, mb_m1n, mb_x2, mb_x4, mb_x32, mb_lt_4, mb_le_4, mb_ge_4, mb_gt_4, mb_le_3, mb_gt_3, mb_le_7, mb_gt_7, mb_lt_32, mb_ge_32, mb_lt_128, mb_ge_128, mb_ge_1, mb_lt_1, mb_ge_1f, mb_lt_1t, not_true, not_false_iff, false_implies, true_implies, true_and, and_true, forall_eq, forall_const, eq_self, mb_e10, k1, l1]
      exact mb_i I
    · simp (disch := omega) only [wpX_link, wpX_objectExists, wpY_link, nI_clamp, vp_in_nI, nI_1, nI_add, mb_lt_t, mb_lt_f, mb_le_t, mb_le_f, mb_ne, mb_lt0, mb_le0, mb_m1, mb_m1l, mb_m1g, mb_m1n, mb_x2, mb_x4, mb_x32, mb_lt_4, mb_le_4, mb_ge_4, mb_gt_4, mb_le_3, mb_gt_3, mb_le_7, mb_gt_7, mb_lt_32, mb_ge_32, mb_lt_128, mb_ge_128, mb_ge_1, mb_lt_1, mb_ge_1f, mb_lt_1t, not_true, not_false_iff, false_implies, true_implies, true_and, and_true, forall_eq, forall_const, eq_self, mb_e10, mb_e01, mb_e02, mb_e03, mb_e04, mb_e05, mb_e06, mb_e07, mb_l00, mb_l02, mb_g50, mb_g60, mb_e10, mb_e12, mb_e13, mb_e14, mb_e15, mb_e16, mb_e17, mb_l10, mb_l12, mb_g51, mb_g61, mb_e20, mb_e21, mb_e23, mb_e24, mb_e25, mb_e26, mb_e27, mb_l20, mb_l22, mb_g52, mb_g62, mb_e30, mb_e31, mb_e32, mb_e34, mb_e35, mb_e36, mb_e37, mb_l30, mb_l32, mb_g53, mb_g63, mb_e40, mb_e41, mb_e42, mb_e43, mb_e45, mb_e46, mb_e47, mb_l40, mb_l42, mb_g54, mb_g64, mb_e50, mb_e51, mb_e52, mb_e53, mb_e54, mb_e56, mb_e57, mb_l50, mb_l52, mb_g55, mb_g65, mb_e60, mb_e61, mb_e62, mb_e63, mb_e64, mb_e65, mb_e67, mb_l60, mb_l62, mb_g56, mb_g66, mb_e70, mb_e71, mb_e72, mb_e73, mb_e74, mb_e75, mb_e76, mb_l70, mb_l72, mb_g57, mb_g67, k1]
      exact mb_i I
    · simp (disch := omega) only [wpX_link, wpX_objectExists, wpY_link, nI_clamp, vp_in_nI, nI_1, nI_add, mb_lt_t, mb_lt_f, mb_le_t, mb_le_f, mb_ne, mb_lt0, mb_le0, mb_m1, mb_m1l, mb_m1g, mb_m1n, mb_x2, mb_x4, mb_x32, mb_lt_4, mb_le_4, mb_ge_4, mb_gt_4, mb_le_3, mb_gt_3, mb_le_7, mb_gt_7, mb_lt_32, mb_ge_32, mb_lt_128, mb_ge_128, mb_ge_1, mb_lt_1, mb_ge_1f, mb_lt_1t, not_true, not_false_iff, false_implies, true_implies, true_and, and_true, forall_eq, forall_const, eq_self, mb_e10, mb_e01, mb_e02, mb_e03, mb_e04, mb_e05, mb_e06, mb_e07, mb_l00, mb_l02, mb_g50, mb_g60, mb_e10, mb_e12, mb_e13, mb_e14, mb_e15, mb_e16, mb_e17, mb_l10, mb_l12, mb_g51, mb_g61, mb_e20, mb_e21, mb_e23, mb_e24, mb_e25, mb_e26, mb_e27, mb_l20, mb_l22, mb_g52, mb_g62, mb_e30, mb_e31, mb_e32, mb_e34, mb_e35, mb_e36, mb_e37, mb_l30, mb_l32, mb_g53, mb_g63, mb_e40, mb_e41, mb_e42, mb_e43, mb_e45, mb_e46, mb_e47, mb_l40, mb_l42, mb_g54, mb_g64, mb_e50, mb_e51, mb_e52, mb_e53, mb_e54, mb_e56, mb_e57, mb_l50, mb_l52, mb_g55, mb_g65, mb_e60, mb_e61, mb_e62, mb_e63, mb_e64, mb_e65, mb_e67, mb_l60, mb_l62, mb_g56, mb_g66, mb_e70, mb_e71, mb_e72, mb_e73, mb_e74, mb_e75, mb_e76, mb_l70, mb_l72, mb_g57, mb_g67, k1]
      exact mb_i I
theorem i_vc_hits {k : Nat} {u : SX} {v : SY} (I : i_Rel k u v) (hk : k + 5 ≤ 2562) (v1 : Int32) : wpX_hits (fun r => wpY_hits (fun r' => r' = r ∧ i_Rel (k + 5) u v) v v1) u v1 := by
  obtain ⟨n, p, nd, c, par, rev, st, pcs, regs, plen, pop, px, py, kd, hm, lk, ht, sl, path, hx, he, flt, rfl, rfl, I⟩ := I
  obtain ⟨H, hn8, hp8, hp, hP, hF, hR, hG⟩ := id I
  have hn : n ≤ 32 := H.2.1
  have hcn : c ≤ n := H.1
  have hnd : nd ≤ 4 := H.2.2.2.1
  have hnd1 : 1 ≤ nd := H.2.2.1
  rcases mb_ix v1 (n := c) (by omega) with ⟨z1, z2⟩ | ⟨z1, z2, z3, z4⟩ | ⟨j, hj, rfl⟩
  · simp (disch := omega) only [wpX_hits, wpX_objectExists, wpY_hits, nI_clamp, vp_in_nI, nI_1, nI_add, mb_lt_t, mb_lt_f, mb_le_t, mb_le_f, mb_ne, mb_lt0, mb_le0, mb_m1, mb_m1l, mb_m1g, mb_m1n, mb_x2, mb_x4, mb_x32, mb_lt_4, mb_le_4, mb_ge_4, mb_gt_4, mb_le_3, mb_gt_3, mb_le_7, mb_gt_7, mb_lt_32, mb_ge_32, mb_lt_128, mb_ge_128, mb_ge_1, mb_lt_1, mb_ge_1f, mb_lt_1t, not_true, not_false_iff, false_implies, true_implies, true_and, and_true, forall_eq, forall_const, eq_self, mb_e10, z1, z2]
    exact mb_i I
  · simp (disch := omega) only [wpX_hits, wpX_objectExists, wpY_hits, nI_clamp, vp_in_nI, nI_1, nI_add, mb_lt_t, mb_lt_f, mb_le_t, mb_le_f, mb_ne, mb_lt0, mb_le0, mb_m1, mb_m1l, mb_m1g, mb_m1n, mb_x2, mb_x4, mb_x32, mb_lt_4, mb_le_4, mb_ge_4, mb_gt_4, mb_le_3, mb_gt_3, mb_le_7, mb_gt_7, mb_lt_32, mb_ge_32, mb_lt_128, mb_ge_128, mb_ge_1, mb_lt_1, mb_ge_1f, mb_lt_1t, not_true, not_false_iff, false_implies, true_implies, true_and, and_true, forall_eq, forall_const, eq_self, mb_e10, z1, z2, z3, z4]
    exact mb_i I
  · simp (disch := omega) only [wpX_hits, wpX_objectExists, wpY_hits, nI_clamp, vp_in_nI, nI_1, nI_add, mb_lt_t, mb_lt_f, mb_le_t, mb_le_f, mb_ne, mb_lt0, mb_le0, mb_m1, mb_m1l, mb_m1g, mb_m1n, mb_x2, mb_x4, mb_x32, mb_lt_4, mb_le_4, mb_ge_4, mb_gt_4, mb_le_3, mb_gt_3, mb_le_7, mb_gt_7, mb_lt_32, mb_ge_32, mb_lt_128, mb_ge_128, mb_ge_1, mb_lt_1, mb_ge_1f, mb_lt_1t, not_true, not_false_iff, false_implies, true_implies, true_and, and_true, forall_eq, forall_const, eq_self, mb_e10]
    exact mb_i I
theorem i_vc_status {k : Nat} {u : SX} {v : SY} (I : i_Rel k u v) (hk : k + 5 ≤ 2562) (v1 : Int32) : wpX_status (fun r => wpY_status (fun r' => r' = r ∧ i_Rel (k + 5) u v) v v1) u v1 := by
  obtain ⟨n, p, nd, c, par, rev, st, pcs, regs, plen, pop, px, py, kd, hm, lk, ht, sl, path, hx, he, flt, rfl, rfl, I⟩ := I
  obtain ⟨H, hn8, hp8, hp, hP, hF, hR, hG⟩ := id I
  have hn : n ≤ 32 := H.2.1
  have hcn : c ≤ n := H.1
  have hnd : nd ≤ 4 := H.2.2.2.1
  have hnd1 : 1 ≤ nd := H.2.2.1
  rcases mb_ix v1 (n := nd) (by omega) with ⟨z1, z2⟩ | ⟨z1, z2, z3, z4⟩ | ⟨j, hj, rfl⟩
  · simp (disch := omega) only [wpX_status, wpX_domainExists, wpY_status, nI_clamp, vp_in_nI, nI_1, nI_add, mb_lt_t, mb_lt_f, mb_le_t, mb_le_f, mb_ne, mb_lt0, mb_le0, mb_m1, mb_m1l, mb_m1g, mb_m1n, mb_x2, mb_x4, mb_x32, mb_lt_4, mb_le_4, mb_ge_4, mb_gt_4, mb_le_3, mb_gt_3, mb_le_7, mb_gt_7, mb_lt_32, mb_ge_32, mb_lt_128, mb_ge_128, mb_ge_1, mb_lt_1, mb_ge_1f, mb_lt_1t, not_true, not_false_iff, false_implies, true_implies, true_and, and_true, forall_eq, forall_const, eq_self, mb_e10, z1, z2]
    exact mb_i I
  · simp (disch := omega) only [wpX_status, wpX_domainExists, wpY_status, nI_clamp, vp_in_nI, nI_1, nI_add, mb_lt_t, mb_lt_f, mb_le_t, mb_le_f, mb_ne, mb_lt0, mb_le0, mb_m1, mb_m1l, mb_m1g, mb_m1n, mb_x2, mb_x4, mb_x32, mb_lt_4, mb_le_4, mb_ge_4, mb_gt_4, mb_le_3, mb_gt_3, mb_le_7, mb_gt_7, mb_lt_32, mb_ge_32, mb_lt_128, mb_ge_128, mb_ge_1, mb_lt_1, mb_ge_1f, mb_lt_1t, not_true, not_false_iff, false_implies, true_implies, true_and, and_true, forall_eq, forall_const, eq_self, mb_e10, z1, z2, z3, z4]
    exact mb_i I
  · simp (disch := omega) only [wpX_status, wpX_domainExists, wpY_status, nI_clamp, vp_in_nI, nI_1, nI_add, mb_lt_t, mb_lt_f, mb_le_t, mb_le_f, mb_ne, mb_lt0, mb_le0, mb_m1, mb_m1l, mb_m1g, mb_m1n, mb_x2, mb_x4, mb_x32, mb_lt_4, mb_le_4, mb_ge_4, mb_gt_4, mb_le_3, mb_gt_3, mb_le_7, mb_gt_7, mb_lt_32, mb_ge_32, mb_lt_128, mb_ge_128, mb_ge_1, mb_lt_1, mb_ge_1f, mb_lt_1t, not_true, not_false_iff, false_implies, true_implies, true_and, and_true, forall_eq, forall_const, eq_self, mb_e10]
    exact mb_i I
theorem i_vc_pc {k : Nat} {u : SX} {v : SY} (I : i_Rel k u v) (hk : k + 5 ≤ 2562) (v1 : Int32) : wpX_pc (fun r => wpY_pc (fun r' => r' = r ∧ i_Rel (k + 5) u v) v v1) u v1 := by
  obtain ⟨n, p, nd, c, par, rev, st, pcs, regs, plen, pop, px, py, kd, hm, lk, ht, sl, path, hx, he, flt, rfl, rfl, I⟩ := I
  obtain ⟨H, hn8, hp8, hp, hP, hF, hR, hG⟩ := id I
  have hn : n ≤ 32 := H.2.1
  have hcn : c ≤ n := H.1
  have hnd : nd ≤ 4 := H.2.2.2.1
  have hnd1 : 1 ≤ nd := H.2.2.1
  rcases mb_ix v1 (n := nd) (by omega) with ⟨z1, z2⟩ | ⟨z1, z2, z3, z4⟩ | ⟨j, hj, rfl⟩
  · simp (disch := omega) only [wpX_pc, wpX_domainExists, wpY_pc, nI_clamp, vp_in_nI, nI_1, nI_add, mb_lt_t, mb_lt_f, mb_le_t, mb_le_f, mb_ne, mb_lt0, mb_le0, mb_m1, mb_m1l, mb_m1g, mb_m1n, mb_x2, mb_x4, mb_x32, mb_lt_4, mb_le_4, mb_ge_4, mb_gt_4, mb_le_3, mb_gt_3, mb_le_7, mb_gt_7, mb_lt_32, mb_ge_32, mb_lt_128, mb_ge_128, mb_ge_1, mb_lt_1, mb_ge_1f, mb_lt_1t, not_true, not_false_iff, false_implies, true_implies, true_and, and_true, forall_eq, forall_const, eq_self, mb_e10, z1, z2]
    exact mb_i I
  · simp (disch := omega) only [wpX_pc, wpX_domainExists, wpY_pc, nI_clamp, vp_in_nI, nI_1, nI_add, mb_lt_t, mb_lt_f, mb_le_t, mb_le_f, mb_ne, mb_lt0, mb_le0, mb_m1, mb_m1l, mb_m1g, mb_m1n, mb_x2, mb_x4, mb_x32, mb_lt_4, mb_le_4, mb_ge_4, mb_gt_4, mb_le_3, mb_gt_3, mb_le_7, mb_gt_7, mb_lt_32, mb_ge_32, mb_lt_128, mb_ge_128, mb_ge_1, mb_lt_1, mb_ge_1f, mb_lt_1t, not_true, not_false_iff, false_implies, true_implies, true_and, and_true, forall_eq, forall_const, eq_self, mb_e10, z1, z2, z3, z4]
    exact mb_i I
  · simp (disch := omega) only [wpX_pc, wpX_domainExists, wpY_pc, nI_clamp, vp_in_nI, nI_1, nI_add, mb_lt_t, mb_lt_f, mb_le_t, mb_le_f, mb_ne, mb_lt0, mb_le0, mb_m1, mb_m1l, mb_m1g, mb_m1n, mb_x2, mb_x4, mb_x32, mb_lt_4, mb_le_4, mb_ge_4, mb_gt_4, mb_le_3, mb_gt_3, mb_le_7, mb_gt_7, mb_lt_32, mb_ge_32, mb_lt_128, mb_ge_128, mb_ge_1, mb_lt_1, mb_ge_1f, mb_lt_1t, not_true, not_false_iff, false_implies, true_implies, true_and, and_true, forall_eq, forall_const, eq_self, mb_e10]
    exact mb_i I
theorem i_vc_parent {k : Nat} {u : SX} {v : SY} (I : i_Rel k u v) (hk : k + 5 ≤ 2562) (v1 : Int32) : wpX_parent (fun r => wpY_parent (fun r' => r' = r ∧ i_Rel (k + 5) u v) v v1) u v1 := by
  obtain ⟨n, p, nd, c, par, rev, st, pcs, regs, plen, pop, px, py, kd, hm, lk, ht, sl, path, hx, he, flt, rfl, rfl, I⟩ := I
  obtain ⟨H, hn8, hp8, hp, hP, hF, hR, hG⟩ := id I
  have hn : n ≤ 32 := H.2.1
  have hcn : c ≤ n := H.1
  have hnd : nd ≤ 4 := H.2.2.2.1
  have hnd1 : 1 ≤ nd := H.2.2.1
  rcases mb_ix v1 (n := nd) (by omega) with ⟨z1, z2⟩ | ⟨z1, z2, z3, z4⟩ | ⟨j, hj, rfl⟩
  · simp (disch := omega) only [wpX_parent, wpX_domainExists, wpY_parent, nI_clamp, vp_in_nI, nI_1, nI_add, mb_lt_t, mb_lt_f, mb_le_t, mb_le_f, mb_ne, mb_lt0, mb_le0, mb_m1, mb_m1l, mb_m1g, mb_m1n, mb_x2, mb_x4, mb_x32, mb_lt_4, mb_le_4, mb_ge_4, mb_gt_4, mb_le_3, mb_gt_3, mb_le_7, mb_gt_7, mb_lt_32, mb_ge_32, mb_lt_128, mb_ge_128, mb_ge_1, mb_lt_1, mb_ge_1f, mb_lt_1t, not_true, not_false_iff, false_implies, true_implies, true_and, and_true, forall_eq, forall_const, eq_self, mb_e10, z1, z2]
    exact mb_i I
  · simp (disch := omega) only [wpX_parent, wpX_domainExists, wpY_parent, nI_clamp, vp_in_nI, nI_1, nI_add, mb_lt_t, mb_lt_f, mb_le_t, mb_le_f, mb_ne, mb_lt0, mb_le0, mb_m1, mb_m1l, mb_m1g, mb_m1n, mb_x2, mb_x4, mb_x32, mb_lt_4, mb_le_4, mb_ge_4, mb_gt_4, mb_le_3, mb_gt_3, mb_le_7, mb_gt_7, mb_lt_32, mb_ge_32, mb_lt_128, mb_ge_128, mb_ge_1, mb_lt_1, mb_ge_1f, mb_lt_1t, not_true, not_false_iff, false_implies, true_implies, true_and, and_true, forall_eq, forall_const, eq_self, mb_e10, z1, z2, z3, z4]
    exact mb_i I
  · by_cases e : j = 0
    · subst e
      have e0 := hP.1
      simp (disch := omega) only [wpX_parent, wpX_domainExists, wpY_parent, nI_clamp, vp_in_nI, nI_1, nI_add, mb_lt_t, mb_lt_f, mb_le_t, mb_le_f, mb_ne, mb_lt0, mb_le0, mb_m1, mb_m1l, mb_m1g, mb_m1n, mb_x2, mb_x4, mb_x32, mb_lt_4, mb_le_4, mb_ge_4, mb_gt_4, mb_le_3, mb_gt_3, mb_le_7, mb_gt_7, mb_lt_32, mb_ge_32, mb_lt_128, mb_ge_128, mb_ge_1, mb_lt_1, mb_ge_1f, mb_lt_1t, not_true, not_false_iff, false_implies, true_implies, true_and, and_true, forall_eq, forall_const, eq_self, mb_e10, nI_0, show (0 : Int32) < nI nd from nI_lt (a := 0) hj (by omega), show ¬ nI nd ≤ (0 : Int32) from nI_ge (a := 0) hj (by omega), show ¬ (0 : Int32) < 0 from by decide, show vp_in 0 4 from vp_in_nI (n := 0) (by omega) (by omega), show (0 : Int32).toNatClampNeg = 0 from rfl, e0]
      exact mb_i I
    · have e1 : ¬ nI j = 0 := nI_ne0 (by omega) (by omega)
      simp (disch := omega) only [wpX_parent, wpX_domainExists, wpY_parent, nI_clamp, vp_in_nI, nI_1, nI_add, mb_lt_t, mb_lt_f, mb_le_t, mb_le_f, mb_ne, mb_lt0, mb_le0, mb_m1, mb_m1l, mb_m1g, mb_m1n, mb_x2, mb_x4, mb_x32, mb_lt_4, mb_le_4, mb_ge_4, mb_gt_4, mb_le_3, mb_gt_3, mb_le_7, mb_gt_7, mb_lt_32, mb_ge_32, mb_lt_128, mb_ge_128, mb_ge_1, mb_lt_1, mb_ge_1f, mb_lt_1t, not_true, not_false_iff, false_implies, true_implies, true_and, and_true, forall_eq, forall_const, eq_self, mb_e10, e1]
      exact mb_i I
theorem i_vc_revoked {k : Nat} {u : SX} {v : SY} (I : i_Rel k u v) (hk : k + 5 ≤ 2562) (v1 : Int32) : wpX_revoked (fun r => wpY_revoked (fun r' => r' = r ∧ i_Rel (k + 5) u v) v v1) u v1 := by
  obtain ⟨n, p, nd, c, par, rev, st, pcs, regs, plen, pop, px, py, kd, hm, lk, ht, sl, path, hx, he, flt, rfl, rfl, I⟩ := I
  obtain ⟨H, hn8, hp8, hp, hP, hF, hR, hG⟩ := id I
  have hn : n ≤ 32 := H.2.1
  have hcn : c ≤ n := H.1
  have hnd : nd ≤ 4 := H.2.2.2.1
  have hnd1 : 1 ≤ nd := H.2.2.1
  rcases mb_ixm v1 (n := nd) (by omega) with z | ⟨z1, z2, z3⟩ | ⟨j, hj1, hj, rfl⟩
  · simp (disch := omega) only [wpX_revoked, wpX_membraneExists, wpY_revoked, nI_clamp, vp_in_nI, nI_1, nI_add, mb_lt_t, mb_lt_f, mb_le_t, mb_le_f, mb_ne, mb_lt0, mb_le0, mb_m1, mb_m1l, mb_m1g, mb_m1n, mb_x2, mb_x4, mb_x32, mb_lt_4, mb_le_4, mb_ge_4, mb_gt_4, mb_le_3, mb_gt_3, mb_le_7, mb_gt_7, mb_lt_32, mb_ge_32, mb_lt_128, mb_ge_128, mb_ge_1, mb_lt_1, mb_ge_1f, mb_lt_1t, not_true, not_false_iff, false_implies, true_implies, true_and, and_true, forall_eq, forall_const, eq_self, mb_e10, z]
    exact mb_i I
  · simp (disch := omega) only [wpX_revoked, wpX_membraneExists, wpY_revoked, nI_clamp, vp_in_nI, nI_1, nI_add, mb_lt_t, mb_lt_f, mb_le_t, mb_le_f, mb_ne, mb_lt0, mb_le0, mb_m1, mb_m1l, mb_m1g, mb_m1n, mb_x2, mb_x4, mb_x32, mb_lt_4, mb_le_4, mb_ge_4, mb_gt_4, mb_le_3, mb_gt_3, mb_le_7, mb_gt_7, mb_lt_32, mb_ge_32, mb_lt_128, mb_ge_128, mb_ge_1, mb_lt_1, mb_ge_1f, mb_lt_1t, not_true, not_false_iff, false_implies, true_implies, true_and, and_true, forall_eq, forall_const, eq_self, mb_e10, z1, z2, z3]
    exact mb_i I
  · by_cases r : rev j = 0
    · simp (disch := omega) only [wpX_revoked, wpX_membraneExists, wpY_revoked, nI_clamp, vp_in_nI, nI_1, nI_add, mb_lt_t, mb_lt_f, mb_le_t, mb_le_f, mb_ne, mb_lt0, mb_le0, mb_m1, mb_m1l, mb_m1g, mb_m1n, mb_x2, mb_x4, mb_x32, mb_lt_4, mb_le_4, mb_ge_4, mb_gt_4, mb_le_3, mb_gt_3, mb_le_7, mb_gt_7, mb_lt_32, mb_ge_32, mb_lt_128, mb_ge_128, mb_ge_1, mb_lt_1, mb_ge_1f, mb_lt_1t, not_true, not_false_iff, false_implies, true_implies, true_and, and_true, forall_eq, forall_const, eq_self, mb_e10, r]
      exact mb_i I
    · simp (disch := omega) only [wpX_revoked, wpX_membraneExists, wpY_revoked, nI_clamp, vp_in_nI, nI_1, nI_add, mb_lt_t, mb_lt_f, mb_le_t, mb_le_f, mb_ne, mb_lt0, mb_le0, mb_m1, mb_m1l, mb_m1g, mb_m1n, mb_x2, mb_x4, mb_x32, mb_lt_4, mb_le_4, mb_ge_4, mb_gt_4, mb_le_3, mb_gt_3, mb_le_7, mb_gt_7, mb_lt_32, mb_ge_32, mb_lt_128, mb_ge_128, mb_ge_1, mb_lt_1, mb_ge_1f, mb_lt_1t, not_true, not_false_iff, false_implies, true_implies, true_and, and_true, forall_eq, forall_const, eq_self, mb_e10, r]
      exact mb_i I
theorem i_vc_reg {k : Nat} {u : SX} {v : SY} (I : i_Rel k u v) (hk : k + 5 ≤ 2562) (v1 : Int32) (v2 : Int32) : wpX_reg (fun r => wpY_reg (fun r' => r' = r ∧ i_Rel (k + 5) u v) v v1 v2) u v1 v2 := by
  obtain ⟨n, p, nd, c, par, rev, st, pcs, regs, plen, pop, px, py, kd, hm, lk, ht, sl, path, hx, he, flt, rfl, rfl, I⟩ := I
  obtain ⟨H, hn8, hp8, hp, hP, hF, hR, hG⟩ := id I
  have hn : n ≤ 32 := H.2.1
  have hcn : c ≤ n := H.1
  have hnd : nd ≤ 4 := H.2.2.2.1
  have hnd1 : 1 ≤ nd := H.2.2.1
  rcases mb_ix v1 (n := nd) (by omega) with ⟨z1, z2⟩ | ⟨z1, z2, z3, z4⟩ | ⟨j, hj, rfl⟩
  · simp (disch := omega) only [wpX_reg, wpX_domainExists, wpX_isRegister, wpY_reg, nI_clamp, vp_in_nI, nI_1, nI_add, mb_lt_t, mb_lt_f, mb_le_t, mb_le_f, mb_ne, mb_lt0, mb_le0, mb_m1, mb_m1l, mb_m1g, mb_m1n, mb_x2, mb_x4, mb_x32, mb_lt_4, mb_le_4, mb_ge_4, mb_gt_4, mb_le_3, mb_gt_3, mb_le_7, mb_gt_7, mb_lt_32, mb_ge_32, mb_lt_128, mb_ge_128, mb_ge_1, mb_lt_1, mb_ge_1f, mb_lt_1t, not_true, not_false_iff, false_implies, true_implies, true_and, and_true, forall_eq, forall_const, eq_self, mb_e10, z1, z2]
    exact mb_i I
  · simp (disch := omega) only [wpX_reg, wpX_domainExists, wpX_isRegister, wpY_reg, nI_clamp, vp_in_nI, nI_1, nI_add, mb_lt_t, mb_lt_f, mb_le_t, mb_le_f, mb_ne, mb_lt0, mb_le0, mb_m1, mb_m1l, mb_m1g, mb_m1n, mb_x2, mb_x4, mb_x32, mb_lt_4, mb_le_4, mb_ge_4, mb_gt_4, mb_le_3, mb_gt_3, mb_le_7, mb_gt_7, mb_lt_32, mb_ge_32, mb_lt_128, mb_ge_128, mb_ge_1, mb_lt_1, mb_ge_1f, mb_lt_1t, not_true, not_false_iff, false_implies, true_implies, true_and, and_true, forall_eq, forall_const, eq_self, mb_e10, z1, z2, z3, z4]
    exact mb_i I
  · rcases mb_ix4 v2 with ⟨z1, z2⟩ | ⟨z1, z2, z3, z4, z5, z6⟩ | ⟨r, hr, rfl⟩
    · simp (disch := omega) only [wpX_reg, wpX_domainExists, wpX_isRegister, wpY_reg, nI_clamp, vp_in_nI, nI_1, nI_add, mb_lt_t, mb_lt_f, mb_le_t, mb_le_f, mb_ne, mb_lt0, mb_le0, mb_m1, mb_m1l, mb_m1g, mb_m1n, mb_x2, mb_x4, mb_x32, mb_lt_4, mb_le_4, mb_ge_4, mb_gt_4, mb_le_3, mb_gt_3, mb_le_7, mb_gt_7, mb_lt_32, mb_ge_32, mb_lt_128, mb_ge_128, mb_ge_1, mb_lt_1, mb_ge_1f, mb_lt_1t, not_true, not_false_iff, false_implies, true_implies, true_and, and_true, forall_eq, forall_const, eq_self, mb_e10, z1, z2]
      exact mb_i I
    · simp (disch := omega) only [wpX_reg, wpX_domainExists, wpX_isRegister, wpY_reg, nI_clamp, vp_in_nI, nI_1, nI_add, mb_lt_t, mb_lt_f, mb_le_t, mb_le_f, mb_ne, mb_lt0, mb_le0, mb_m1, mb_m1l, mb_m1g, mb_m1n, mb_x2, mb_x4, mb_x32, mb_lt_4, mb_le_4, mb_ge_4, mb_gt_4, mb_le_3, mb_gt_3, mb_le_7, mb_gt_7, mb_lt_32, mb_ge_32, mb_lt_128, mb_ge_128, mb_ge_1, mb_lt_1, mb_ge_1f, mb_lt_1t, not_true, not_false_iff, false_implies, true_implies, true_and, and_true, forall_eq, forall_const, eq_self, mb_e10, z1, z2, z3, z4, z5, z6]
      exact mb_i I
    · simp (disch := omega) only [wpX_reg, wpX_domainExists, wpX_isRegister, wpY_reg, nI_clamp, vp_in_nI, nI_1, nI_add, mb_lt_t, mb_lt_f, mb_le_t, mb_le_f, mb_ne, mb_lt0, mb_le0, mb_m1, mb_m1l, mb_m1g, mb_m1n, mb_x2, mb_x4, mb_x32, mb_lt_4, mb_le_4, mb_ge_4, mb_gt_4, mb_le_3, mb_gt_3, mb_le_7, mb_gt_7, mb_lt_32, mb_ge_32, mb_lt_128, mb_ge_128, mb_ge_1, mb_lt_1, mb_ge_1f, mb_lt_1t, not_true, not_false_iff, false_implies, true_implies, true_and, and_true, forall_eq, forall_const, eq_self, mb_e10]
      exact mb_i I
theorem i_vc_slot {k : Nat} {u : SX} {v : SY} (I : i_Rel k u v) (hk : k + 5 ≤ 2562) (v1 : Int32) (v2 : Int32) : wpX_slot (fun r => wpY_slot (fun r' => r' = r ∧ i_Rel (k + 5) u v) v v1 v2) u v1 v2 := by
  obtain ⟨n, p, nd, c, par, rev, st, pcs, regs, plen, pop, px, py, kd, hm, lk, ht, sl, path, hx, he, flt, rfl, rfl, I⟩ := I
  obtain ⟨H, hn8, hp8, hp, hP, hF, hR, hG⟩ := id I
  have hn : n ≤ 32 := H.2.1
  have hcn : c ≤ n := H.1
  have hnd : nd ≤ 4 := H.2.2.2.1
  have hnd1 : 1 ≤ nd := H.2.2.1
  rcases mb_ix v1 (n := c) (by omega) with ⟨z1, z2⟩ | ⟨z1, z2, z3, z4⟩ | ⟨j, hj, rfl⟩
  · simp (disch := omega) only [wpX_slot, wpX_objectExists, wpY_slot, nI_clamp, vp_in_nI, nI_1, nI_add, mb_lt_t, mb_lt_f, mb_le_t, mb_le_f, mb_ne, mb_lt0, mb_le0, mb_m1, mb_m1l, mb_m1g, mb_m1n, mb_x2, mb_x4, mb_x32, mb_lt_4, mb_le_4, mb_ge_4, mb_gt_4, mb_le_3, mb_gt_3, mb_le_7, mb_gt_7, mb_lt_32, mb_ge_32, mb_lt_128, mb_ge_128, mb_ge_1, mb_lt_1, mb_ge_1f, mb_lt_1t, not_true, not_false_iff, false_implies, true_implies, true_and, and_true, forall_eq, forall_const, eq_self, mb_e10, z1, z2]
    exact mb_i I
  · simp (disch := omega) only [wpX_slot, wpX_objectExists, wpY_slot, nI_clamp, vp_in_nI, nI_1, nI_add, mb_lt_t, mb_lt_f, mb_le_t, mb_le_f, mb_ne, mb_lt0, mb_le0, mb_m1, mb_m1l, mb_m1g, mb_m1n, mb_x2, mb_x4, mb_x32, mb_lt_4, mb_le_4, mb_ge_4, mb_gt_4, mb_le_3, mb_gt_3, mb_le_7, mb_gt_7, mb_lt_32, mb_ge_32, mb_lt_128, mb_ge_128, mb_ge_1, mb_lt_1, mb_ge_1f, mb_lt_1t, not_true, not_false_iff, false_implies, true_implies, true_and, and_true, forall_eq, forall_const, eq_self, mb_e10, z1, z2, z3, z4]
    exact mb_i I
  · by_cases k1 : kd j = 1
    · by_cases w0 : v2 = 0
      · subst w0
        simp (disch := omega) only [wpX_slot, wpX_objectExists, wpY_slot, nI_clamp, vp_in_nI, nI_1, nI_add, mb_lt_t, mb_lt_f, mb_le_t, mb_le_f, mb_ne, mb_lt0, mb_le0, mb_m1, mb_m1l, mb_m1g, mb_m1n, mb_x2, mb_x4, mb_x32, mb_lt_4, mb_le_4, mb_ge_4, mb_gt_4, mb_le_3, mb_gt_3, mb_le_7, mb_gt_7, mb_lt_32, mb_ge_32, mb_lt_128, mb_ge_128, mb_ge_1, mb_lt_1, mb_ge_1f, mb_lt_1t, not_true, not_false_iff, false_implies, true_implies, true_and, and_true, forall_eq, forall_const, eq_self, mb_e10, mb_e01, mb_e02, mb_e03, mb_e04, mb_e05, mb_e06, mb_e07, mb_l00, mb_l02, mb_g50, mb_g60, mb_e10, mb_e12, mb_e13, mb_e14, mb_e15, mb_e16, mb_e17, mb_l10, mb_l12, mb_g51, mb_g61, mb_e20, mb_e21, mb_e23, mb_e24, mb_e25, mb_e26, mb_e27, mb_l20, mb_l22, mb_g52, mb_g62, mb_e30, mb_e31, mb_e32, mb_e34, mb_e35, mb_e36, mb_e37, mb_l30, mb_l32, mb_g53, mb_g63, mb_e40, mb_e41, mb_e42, mb_e43, mb_e45, mb_e46, mb_e47, mb_l40, mb_l42, mb_g54, mb_g64, mb_e50, mb_e51, mb_e52, mb_e53, mb_e54, mb_e56, mb_e57, mb_l50, mb_l52, mb_g55, mb_g65, mb_e60, mb_e61, mb_e62, mb_e63, mb_e64, mb_e65, mb_e67, mb_l60, mb_l62, mb_g56, mb_g66, mb_e70, mb_e71, mb_e72, mb_e73, mb_e74, mb_e75, mb_e76, mb_l70, mb_l72, mb_g57, mb_g67, k1, Int32.add_zero, mb_ev_ap]
        exact mb_i I
      · by_cases w1 : v2 = 1
        · subst w1
          simp (disch := omega) only [wpX_slot, wpX_objectExists, wpY_slot, nI_clamp, vp_in_nI, nI_1, nI_add, mb_lt_t, mb_lt_f, mb_le_t, mb_le_f, mb_ne, mb_lt0, mb_le0, mb_m1, mb_m1l, mb_m1g, mb_m1n, mb_x2, mb_x4, mb_x32, mb_lt_4, mb_le_4, mb_ge_4, mb_gt_4, mb_le_3, mb_gt_3, mb_le_7, mb_gt_7, mb_lt_32, mb_ge_32, mb_lt_128, mb_ge_128, mb_ge_1, mb_lt_1, mb_ge_1f, mb_lt_1t, not_true, not_false_iff, false_implies, true_implies, true_and, and_true, forall_eq, forall_const, eq_self, mb_e10, mb_e01, mb_e02, mb_e03, mb_e04, mb_e05, mb_e06, mb_e07, mb_l00, mb_l02, mb_g50, mb_g60, mb_e10, mb_e12, mb_e13, mb_e14, mb_e15, mb_e16, mb_e17, mb_l10, mb_l12, mb_g51, mb_g61, mb_e20, mb_e21, mb_e23, mb_e24, mb_e25, mb_e26, mb_e27, mb_l20, mb_l22, mb_g52, mb_g62, mb_e30, mb_e31, mb_e32, mb_e34, mb_e35, mb_e36, mb_e37, mb_l30, mb_l32, mb_g53, mb_g63, mb_e40, mb_e41, mb_e42, mb_e43, mb_e45, mb_e46, mb_e47, mb_l40, mb_l42, mb_g54, mb_g64, mb_e50, mb_e51, mb_e52, mb_e53, mb_e54, mb_e56, mb_e57, mb_l50, mb_l52, mb_g55, mb_g65, mb_e60, mb_e61, mb_e62, mb_e63, mb_e64, mb_e65, mb_e67, mb_l60, mb_l62, mb_g56, mb_g66, mb_e70, mb_e71, mb_e72, mb_e73, mb_e74, mb_e75, mb_e76, mb_l70, mb_l72, mb_g57, mb_g67, k1, mb_od_ap]
          exact mb_i I
        · by_cases w2 : v2 < 0
          · simp (disch := omega) only [wpX_slot, wpX_objectExists, wpY_slot, nI_clamp, vp_in_nI, nI_1, nI_add, mb_lt_t, mb_lt_f, mb_le_t, mb_le_f, mb_ne, mb_lt0, mb_le0, mb_m1, mb_m1l, mb_m1g, mb_m1n, mb_x2, mb_x4, mb_x32, mb_lt_4, mb_le_4, mb_ge_4, mb_gt_4, mb_le_3, mb_gt_3, mb_le_7, mb_gt_7, mb_lt_32, mb_ge_32, mb_lt_128, mb_ge_128, mb_ge_1, mb_lt_1, mb_ge_1f, mb_lt_1t, not_true, not_false_iff, false_implies, true_implies, true_and, and_true, forall_eq, forall_const, eq_self, mb_e10, k1, w0, w1, w2]
            exact mb_i I
          · have w3 : ¬ v2 < 2 := by
              intro z
              obtain ⟨q, hq, rfl⟩ := nI_of w2
              have hq2 : q < 2 := (nI_ltI hq (by omega)).mp z
              have : q = 0 ∨ q = 1 := by omega
              rcases this with rfl | rfl
              · exact w0 rfl
              · exact w1 rfl
            simp (disch := omega) only [wpX_slot, wpX_objectExists, wpY_slot, nI_clamp, vp_in_nI, nI_1, nI_add, mb_lt_t, mb_lt_f, mb_le_t, mb_le_f, mb_ne, mb_lt0, mb_le0, mb_m1, mb_m1l, mb_m1g, mb_m1n, mb_x2, mb_x4, mb_x32, mb_lt_4, mb_le_4, mb_ge_4, mb_gt_4, mb_le_3, mb_gt_3, mb_le_7, mb_gt_7, mb_lt_32, mb_ge_32, mb_lt_128, mb_ge_128, mb_ge_1, mb_lt_1, mb_ge_1f, mb_lt_1t, not_true, not_false_iff, false_implies, true_implies, true_and, and_true, forall_eq, forall_const, eq_self, mb_e10, k1, w0, w1, w2, w3]
            exact mb_i I
    · simp (disch := omega) only [wpX_slot, wpX_objectExists, wpY_slot, nI_clamp, vp_in_nI, nI_1, nI_add, mb_lt_t, mb_lt_f, mb_le_t, mb_le_f, mb_ne, mb_lt0, mb_le0, mb_m1, mb_m1l, mb_m1g, mb_m1n, mb_x2, mb_x4, mb_x32, mb_lt_4, mb_le_4, mb_ge_4, mb_gt_4, mb_le_3, mb_gt_3, mb_le_7, mb_gt_7, mb_lt_32, mb_ge_32, mb_lt_128, mb_ge_128, mb_ge_1, mb_lt_1, mb_ge_1f, mb_lt_1t, not_true, not_false_iff, false_implies, true_implies, true_and, and_true, forall_eq, forall_const, eq_self, mb_e10, k1]
      exact mb_i I
end
end
section
section
variable {n p nd c : Nat} {par rev st pcs regs plen pop px py kd hm lk ht sl path hx he : Nat → Int32} {flt : Int32}
theorem mb_nar0 : vp_nar .boolean 0 = 0 := by first | rfl | decide
/-- the registers after i rounds of both constructors' loops -/
def mb_rg (i : Nat) : Nat → Int32 := fun j => if j < i then -1 else 0
theorem mb_rg_s (i : Nat) : upd (mb_rg i) i (-1) = mb_rg (i + 1) := by
  funext j
  by_cases e : j = i
  · rw [e, pk_us]; exact (if_pos (by omega)).symm
  · rw [pk_un e]
    by_cases z : j < i
    · exact (if_pos z).trans (if_pos (by omega)).symm
    · exact (if_neg z).trans (if_neg (by omega)).symm
theorem mb_ge_16 {a : Nat} (h : a < 16) : (16 ≤ nI a) = False := eq_false (nI_ge (b := 16) h (by decide))
theorem mx_il {post : SX → Prop} {f0 f1 f2 f3 : Int32} (K : post (f0, f1, f2, f3, par, rev, st, pcs, mb_rg 16, plen, pop, px, py, kd, hm, lk, ht, sl, path)) :
    ∀ m i : Nat, i ≤ 16 → 16 - i < m → wX_init_157 post f0 f1 f2 f3 m (nI i) par rev st pcs (mb_rg i) plen pop px py kd hm lk ht sl path := by
  intro m
  induction m with
  | zero => intro i _ z; omega
  | succ m ih =>
    intro i hi z
    by_cases e : i = 16
    · subst e
      exact br_t (by decide) K
    · have K' := ih (i + 1) (by omega) (by omega)
      have a : i < 16 := by omega
      simp (disch := omega) only [wX_init_157, nI_clamp, vp_in_nI, nI_1, nI_add, mb_lt_t, mb_lt_f, mb_le_t, mb_le_f, mb_ne, mb_lt0, mb_le0, mb_m1, mb_m1l, mb_m1g, mb_m1n, mb_x2, mb_x4, mb_x32, mb_lt_4, mb_le_4, mb_ge_4, mb_gt_4, mb_le_3, mb_gt_3, mb_le_7, mb_gt_7, mb_lt_32, mb_ge_32, mb_lt_128, mb_ge_128, mb_ge_1, mb_lt_1, mb_ge_1f, mb_lt_1t, not_true, not_false_iff, false_implies, true_implies, true_and, and_true, forall_eq, forall_const, eq_self, mb_e10, mb_ge_16, mb_rg_s]
      exact K'
theorem my_il {post : SY → Prop} {f0 f1 f2 f3 f4 : Int32} {s0 s1 : Nat → Int32} (K : post (f0, f1, f2, f3, f4, par, rev, mb_rg 16, pop, px, py, plen, pcs, st, kd, hm, lk, s0, s1, ht, hx, he)) :
    ∀ m i : Nat, i ≤ 16 → 16 - i < m → wY_init_211 post f0 f1 f2 f3 f4 m (nI i) par rev (mb_rg i) pop px py plen pcs st kd hm lk s0 s1 ht hx he := by
  intro m
  induction m with
  | zero => intro i _ z; omega
  | succ m ih =>
    intro i hi z
    by_cases e : i = 16
    · subst e
      exact br_t (by decide) K
    · have K' := ih (i + 1) (by omega) (by omega)
      have a : i < 16 := by omega
      simp (disch := omega) only [wY_init_211, nI_clamp, vp_in_nI, nI_1, nI_add, mb_lt_t, mb_lt_f, mb_le_t, mb_le_f, mb_ne, mb_lt0, mb_le0, mb_m1, mb_m1l, mb_m1g, mb_m1n, mb_x2, mb_x4, mb_x32, mb_lt_4, mb_le_4, mb_ge_4, mb_gt_4, mb_le_3, mb_gt_3, mb_le_7, mb_gt_7, mb_lt_32, mb_ge_32, mb_lt_128, mb_ge_128, mb_ge_1, mb_lt_1, mb_ge_1f, mb_lt_1t, not_true, not_false_iff, false_implies, true_implies, true_and, and_true, forall_eq, forall_const, eq_self, mb_e10, mb_ge_16, mb_rg_s]
      exact K'
def mb_CP (x : Int32) (q : Nat) : Prop := 8 ≤ q ∧ q ≤ 32 ∧ ((¬ 8 ≤ x ∧ q = 8) ∨ (8 ≤ x ∧ ¬ x ≤ 32 ∧ q = 32) ∨ (8 ≤ x ∧ x ≤ 32 ∧ x = nI q))
theorem mb_cp (x : Int32) : ∃ q, mb_CP x q := by
  by_cases h : 8 ≤ x
  · by_cases h2 : x ≤ 32
    · have h0 : ¬ x < 0 := Int32.not_lt.mpr (Int32.le_trans (by decide) h)
      obtain ⟨q, hq, rfl⟩ := nI_of h0
      have a : 8 ≤ q := (nI_leI (a := 8) (by omega) hq).mp h
      have b : q ≤ 32 := (nI_leI (b := 32) hq (by omega)).mp h2
      exact ⟨q, a, b, Or.inr (Or.inr ⟨h, h2, rfl⟩)⟩
    · exact ⟨32, by omega, by omega, Or.inr (Or.inl ⟨h, h2, rfl⟩)⟩
  · exact ⟨8, by omega, by omega, Or.inl ⟨h, rfl⟩⟩
theorem mx_cp {post : Int32 → Prop} {x : Int32} {q : Nat} (h : mb_CP x q) (K : post (nI q)) : wpX_clampSize post x := by
  rcases h with ⟨-, -, ⟨a, rfl⟩ | ⟨a, b, rfl⟩ | ⟨a, b, rfl⟩⟩
  · exact br_f a K
  · exact br_t a (br_f b K)
  · exact br_t a (br_t b K)
theorem my_cp2 {post : SY → Prop} {x f0 : Int32} {q : Nat} {f1 f2 f3 f4 : Int32} {s0 s1 : Nat → Int32} (h : mb_CP x q)
    (K : wY_init_189 post (nI q) f0 f1 f2 f3 f4 par rev regs pop px py plen pcs st kd hm lk s0 s1 ht hx he) : ∀ f, wY_init_162 post x f0 f f1 f2 f3 f4 par rev regs pop px py plen pcs st kd hm lk s0 s1 ht hx he := by
  intro f
  rcases h with ⟨-, -, ⟨a, rfl⟩ | ⟨a, b, rfl⟩ | ⟨a, b, rfl⟩⟩
  · exact br_f a K
  · exact br_t a (br_f b K)
  · exact br_t a (br_t b K)
theorem i_vc0 (k0 : Int32) (k1 : Int32) : wpX_init (fun u => wpY_init (fun v => i_Rel 2 u v) k0 k1) k0 k1 := by
  obtain ⟨n, h1⟩ := mb_cp k0
  obtain ⟨p, h2⟩ := mb_cp k1
  refine mx_cp h1 ?_
  refine mx_cp h2 ?_
  refine nm_e ⟨17, ?_⟩
  refine mx_il ?_ 17 0 (by omega) (by omega)
  have K : i_Rel 2 (nI n, nI p, nI 1, nI 0, (upd (fun _ => 0) 0 (-1)), (fun _ => 0), (fun _ => 0), (fun _ => 0), (mb_rg 16), (fun _ => 0), (fun _ => 0), (fun _ => 0), (fun _ => 0), (fun _ => 0), (fun _ => 0), (fun _ => 0), (fun _ => 0), (fun _ => 0), (fun _ => 0))
      (nI n, nI p, nI 1, nI 0, 0, (upd (fun _ => 0) 0 (-1)), (fun _ => 0), (mb_rg 16), (fun _ => 0), (fun _ => 0), (fun _ => 0), (fun _ => 0), (fun _ => 0), (fun _ => 0), (fun _ => 0), (fun _ => 0), (fun _ => 0), (mb_ev (fun _ => 0)), (mb_od (fun _ => 0)), (fun _ => 0), (fun _ => 0), (fun _ => 0)) := by
    refine mb_i ⟨⟨by omega, h1.2.1, by omega, by omega, fun i hi => absurd hi (by omega), fun j hj => absurd hj (by omega)⟩, h1.1, h2.1, h2.2.1, ⟨pk_us, fun i a b => absurd b (by omega)⟩, ?_, ?_, ?_⟩
    · intro i _ hi
      refine ⟨rfl, rfl, rfl, rfl, fun r hr => if_pos (by omega)⟩
    · intro j hj
      exact Or.inl (if_pos hj)
    · intro d hd
      exact ⟨0, 0, by omega, by omega, rfl, rfl, fun k hk => absurd hk (by omega)⟩
  have Y0 : ∀ f, wY_init_162 (fun v => i_Rel 2 (nI n, nI p, nI 1, nI 0, (upd (fun _ => 0) 0 (-1)), (fun _ => 0), (fun _ => 0), (fun _ => 0), (mb_rg 16), (fun _ => 0), (fun _ => 0), (fun _ => 0), (fun _ => 0), (fun _ => 0), (fun _ => 0), (fun _ => 0), (fun _ => 0), (fun _ => 0), (fun _ => 0)) v) k1 (nI n) f 0 0 0 0 (fun _ => 0) (fun _ => 0) (fun _ => 0) (fun _ => 0) (fun _ => 0) (fun _ => 0) (fun _ => 0) (fun _ => 0) (fun _ => 0) (fun _ => 0) (fun _ => 0) (fun _ => 0) (fun _ => 0) (fun _ => 0) (fun _ => 0) (fun _ => 0) (fun _ => 0) := by
    refine my_cp2 h2 ?_
    refine nm_e ⟨17, ?_⟩
    exact my_il K 17 0 (by omega) (by omega)
  obtain ⟨-, -, ⟨a, rfl⟩ | ⟨a, b, rfl⟩ | ⟨a, b, rfl⟩⟩ := h1
  · exact br_f a (Y0 0)
  · exact br_t a (br_f b (Y0 0))
  · exact br_t a (br_t b (Y0 0))
theorem i_vc_newBox {k : Nat} {u : SX} {v : SY} (I : i_Rel k u v) (hk : k + 5 ≤ 2562) (v1 : Int32) : wpX_newBox (fun r u' => wpY_newBox (fun r' v' => r' = r ∧ i_Rel (k + 5) u' v') v v1) u v1 := by
  obtain ⟨n, p, nd, c, par, rev, st, pcs, regs, plen, pop, px, py, kd, hm, lk, ht, sl, path, hx, he, flt, rfl, rfl, I⟩ := I
  obtain ⟨H, hn8, hp8, hp, hP, hF, hR, hG⟩ := id I
  have hn : n ≤ 32 := H.2.1
  have hcn : c ≤ n := H.1
  have hnd : nd ≤ 4 := H.2.2.2.1
  have hnd1 : 1 ≤ nd := H.2.2.1
  rcases mb_ix v1 (n := nd) (by omega) with ⟨z1, z2⟩ | ⟨z1, z2, z3, z4⟩ | ⟨d, hd, rfl⟩
  · simp (disch := omega) only [wpX_newBox, wpX_domainExists, wpY_newBox, nI_clamp, vp_in_nI, nI_1, nI_add, mb_lt_t, mb_lt_f, mb_le_t, mb_le_f, mb_ne, mb_lt0, mb_le0, mb_m1, mb_m1l, mb_m1g, mb_m1n, mb_x2, mb_x4, mb_x32, mb_lt_4, mb_le_4, mb_ge_4, mb_gt_4, mb_le_3, mb_gt_3, mb_le_7, mb_gt_7, mb_lt_32, mb_ge_32, mb_lt_128, mb_ge_128, mb_ge_1, mb_lt_1, mb_ge_1f, mb_lt_1t, not_true, not_false_iff, false_implies, true_implies, true_and, and_true, forall_eq, forall_const, eq_self, mb_e10, z1, z2]
    exact mb_i I
  · simp (disch := omega) only [wpX_newBox, wpX_domainExists, wpY_newBox, nI_clamp, vp_in_nI, nI_1, nI_add, mb_lt_t, mb_lt_f, mb_le_t, mb_le_f, mb_ne, mb_lt0, mb_le0, mb_m1, mb_m1l, mb_m1g, mb_m1n, mb_x2, mb_x4, mb_x32, mb_lt_4, mb_le_4, mb_ge_4, mb_gt_4, mb_le_3, mb_gt_3, mb_le_7, mb_gt_7, mb_lt_32, mb_ge_32, mb_lt_128, mb_ge_128, mb_ge_1, mb_lt_1, mb_ge_1f, mb_lt_1t, not_true, not_false_iff, false_implies, true_implies, true_and, and_true, forall_eq, forall_const, eq_self, mb_e10, z1, z2, z3, z4]
    exact mb_i I
  · by_cases hc : c < n
    · simp (disch := omega) only [wpX_newBox, wpX_domainExists, wpY_newBox, nI_clamp, vp_in_nI, nI_1, nI_add, mb_lt_t, mb_lt_f, mb_le_t, mb_le_f, mb_ne, mb_lt0, mb_le0, mb_m1, mb_m1l, mb_m1g, mb_m1n, mb_x2, mb_x4, mb_x32, mb_lt_4, mb_le_4, mb_ge_4, mb_gt_4, mb_le_3, mb_gt_3, mb_le_7, mb_gt_7, mb_lt_32, mb_ge_32, mb_lt_128, mb_ge_128, mb_ge_1, mb_lt_1, mb_ge_1f, mb_lt_1t, not_true, not_false_iff, false_implies, true_implies, true_and, and_true, forall_eq, forall_const, eq_self, mb_e10]
      refine mx_mk hc hn ?_
      simp (disch := omega) only [wpX_isFault, nI_clamp, vp_in_nI, nI_1, nI_add, mb_lt_t, mb_lt_f, mb_le_t, mb_le_f, mb_ne, mb_lt0, mb_le0, mb_m1, mb_m1l, mb_m1g, mb_m1n, mb_x2, mb_x4, mb_x32, mb_lt_4, mb_le_4, mb_ge_4, mb_gt_4, mb_le_3, mb_gt_3, mb_le_7, mb_gt_7, mb_lt_32, mb_ge_32, mb_lt_128, mb_ge_128, mb_ge_1, mb_lt_1, mb_ge_1f, mb_lt_1t, not_true, not_false_iff, false_implies, true_implies, true_and, and_true, forall_eq, forall_const, eq_self, mb_e10]
      exact my_mk (by omega) ⟨rfl, mb_i ⟨mb_mk H hc ⟨⟨d, hd, rfl⟩, Or.inl ⟨rfl, rfl⟩⟩, hn8, hp8, hp, hP, hF, mb_R_up hR (by omega), hG⟩⟩
    · simp (disch := omega) only [wpX_newBox, wpX_domainExists, wpY_newBox, nI_clamp, vp_in_nI, nI_1, nI_add, mb_lt_t, mb_lt_f, mb_le_t, mb_le_f, mb_ne, mb_lt0, mb_le0, mb_m1, mb_m1l, mb_m1g, mb_m1n, mb_x2, mb_x4, mb_x32, mb_lt_4, mb_le_4, mb_ge_4, mb_gt_4, mb_le_3, mb_gt_3, mb_le_7, mb_gt_7, mb_lt_32, mb_ge_32, mb_lt_128, mb_ge_128, mb_ge_1, mb_lt_1, mb_ge_1f, mb_lt_1t, not_true, not_false_iff, false_implies, true_implies, true_and, and_true, forall_eq, forall_const, eq_self, mb_e10]
      refine mx_full (by omega) (by omega) ?_
      simp (disch := omega) only [wpX_isFault, nI_clamp, vp_in_nI, nI_1, nI_add, mb_lt_t, mb_lt_f, mb_le_t, mb_le_f, mb_ne, mb_lt0, mb_le0, mb_m1, mb_m1l, mb_m1g, mb_m1n, mb_x2, mb_x4, mb_x32, mb_lt_4, mb_le_4, mb_ge_4, mb_gt_4, mb_le_3, mb_gt_3, mb_le_7, mb_gt_7, mb_lt_32, mb_ge_32, mb_lt_128, mb_ge_128, mb_ge_1, mb_lt_1, mb_ge_1f, mb_lt_1t, not_true, not_false_iff, false_implies, true_implies, true_and, and_true, forall_eq, forall_const, eq_self, mb_e10, show ¬ ((-1 : Int32) ≤ -4) from by decide]
      exact mb_i I
theorem i_vc_revoke {k : Nat} {u : SX} {v : SY} (I : i_Rel k u v) (hk : k + 5 ≤ 2562) (v1 : Int32) : wpX_revoke (fun r u' => wpY_revoke (fun r' v' => r' = r ∧ i_Rel (k + 5) u' v') v v1) u v1 := by
  obtain ⟨n, p, nd, c, par, rev, st, pcs, regs, plen, pop, px, py, kd, hm, lk, ht, sl, path, hx, he, flt, rfl, rfl, I⟩ := I
  obtain ⟨H, hn8, hp8, hp, hP, hF, hR, hG⟩ := id I
  have hn : n ≤ 32 := H.2.1
  have hcn : c ≤ n := H.1
  have hnd : nd ≤ 4 := H.2.2.2.1
  have hnd1 : 1 ≤ nd := H.2.2.1
  rcases mb_ixm v1 (n := nd) (by omega) with z | ⟨z1, z2, z3⟩ | ⟨j, hj1, hj, rfl⟩
  · simp (disch := omega) only [wpX_revoke, wpX_membraneExists, wpY_revoke, nI_clamp, vp_in_nI, nI_1, nI_add, mb_lt_t, mb_lt_f, mb_le_t, mb_le_f, mb_ne, mb_lt0, mb_le0, mb_m1, mb_m1l, mb_m1g, mb_m1n, mb_x2, mb_x4, mb_x32, mb_lt_4, mb_le_4, mb_ge_4, mb_gt_4, mb_le_3, mb_gt_3, mb_le_7, mb_gt_7, mb_lt_32, mb_ge_32, mb_lt_128, mb_ge_128, mb_ge_1, mb_lt_1, mb_ge_1f, mb_lt_1t, not_true, not_false_iff, false_implies, true_implies, true_and, and_true, forall_eq, forall_const, eq_self, mb_e10, z]
    exact mb_i I
  · simp (disch := omega) only [wpX_revoke, wpX_membraneExists, wpY_revoke, nI_clamp, vp_in_nI, nI_1, nI_add, mb_lt_t, mb_lt_f, mb_le_t, mb_le_f, mb_ne, mb_lt0, mb_le0, mb_m1, mb_m1l, mb_m1g, mb_m1n, mb_x2, mb_x4, mb_x32, mb_lt_4, mb_le_4, mb_ge_4, mb_gt_4, mb_le_3, mb_gt_3, mb_le_7, mb_gt_7, mb_lt_32, mb_ge_32, mb_lt_128, mb_ge_128, mb_ge_1, mb_lt_1, mb_ge_1f, mb_lt_1t, not_true, not_false_iff, false_implies, true_implies, true_and, and_true, forall_eq, forall_const, eq_self, mb_e10, z1, z2, z3]
    exact mb_i I
  · by_cases r : rev j = 0
    · simp (disch := omega) only [wpX_revoke, wpX_membraneExists, wpY_revoke, nI_clamp, vp_in_nI, nI_1, nI_add, mb_lt_t, mb_lt_f, mb_le_t, mb_le_f, mb_ne, mb_lt0, mb_le0, mb_m1, mb_m1l, mb_m1g, mb_m1n, mb_x2, mb_x4, mb_x32, mb_lt_4, mb_le_4, mb_ge_4, mb_gt_4, mb_le_3, mb_gt_3, mb_le_7, mb_gt_7, mb_lt_32, mb_ge_32, mb_lt_128, mb_ge_128, mb_ge_1, mb_lt_1, mb_ge_1f, mb_lt_1t, not_true, not_false_iff, false_implies, true_implies, true_and, and_true, forall_eq, forall_const, eq_self, mb_e10, r]
      exact mb_i ⟨H, hn8, hp8, hp, hP, mb_F_rev hF hj _, hR, hG⟩
    · simp (disch := omega) only [wpX_revoke, wpX_membraneExists, wpY_revoke, nI_clamp, vp_in_nI, nI_1, nI_add, mb_lt_t, mb_lt_f, mb_le_t, mb_le_f, mb_ne, mb_lt0, mb_le0, mb_m1, mb_m1l, mb_m1g, mb_m1n, mb_x2, mb_x4, mb_x32, mb_lt_4, mb_le_4, mb_ge_4, mb_gt_4, mb_le_3, mb_gt_3, mb_le_7, mb_gt_7, mb_lt_32, mb_ge_32, mb_lt_128, mb_ge_128, mb_ge_1, mb_lt_1, mb_ge_1f, mb_lt_1t, not_true, not_false_iff, false_implies, true_implies, true_and, and_true, forall_eq, forall_const, eq_self, mb_e10, r]
      exact mb_i I
theorem i_vc_run {k : Nat} {u : SX} {v : SY} (I : i_Rel k u v) (hk : k + 5 ≤ 2562) (v1 : Int32) (v2 : Int32) : wpX_run (fun r u' => wpY_run (fun r' v' => r' = r ∧ i_Rel (k + 5) u' v') v v1 v2) u v1 v2 := by
  obtain ⟨n, p, nd, c, par, rev, st, pcs, regs, plen, pop, px, py, kd, hm, lk, ht, sl, path, hx, he, flt, rfl, rfl, I⟩ := I
  obtain ⟨H, hn8, hp8, hp, hP, hF, hR, hG⟩ := id I
  have hn : n ≤ 32 := H.2.1
  have hcn : c ≤ n := H.1
  have hnd : nd ≤ 4 := H.2.2.2.1
  have hnd1 : 1 ≤ nd := H.2.2.1
  rcases mb_ix v1 (n := nd) (by omega) with ⟨z1, z2⟩ | ⟨z1, z2, z3, z4⟩ | ⟨d, hd, rfl⟩
  · simp (disch := omega) only [wpX_run, wpX_domainExists, wpY_run, nI_clamp, vp_in_nI, nI_1, nI_add, mb_lt_t, mb_lt_f, mb_le_t, mb_le_f, mb_ne, mb_lt0, mb_le0, mb_m1, mb_m1l, mb_m1g, mb_m1n, mb_x2, mb_x4, mb_x32, mb_lt_4, mb_le_4, mb_ge_4, mb_gt_4, mb_le_3, mb_gt_3, mb_le_7, mb_gt_7, mb_lt_32, mb_ge_32, mb_lt_128, mb_ge_128, mb_ge_1, mb_lt_1, mb_ge_1f, mb_lt_1t, not_true, not_false_iff, false_implies, true_implies, true_and, and_true, forall_eq, forall_const, eq_self, mb_e10, z1, z2]
    exact mb_i I
  · simp (disch := omega) only [wpX_run, wpX_domainExists, wpY_run, nI_clamp, vp_in_nI, nI_1, nI_add, mb_lt_t, mb_lt_f, mb_le_t, mb_le_f, mb_ne, mb_lt0, mb_le0, mb_m1, mb_m1l, mb_m1g, mb_m1n, mb_x2, mb_x4, mb_x32, mb_lt_4, mb_le_4, mb_ge_4, mb_gt_4, mb_le_3, mb_gt_3, mb_le_7, mb_gt_7, mb_lt_32, mb_ge_32, mb_lt_128, mb_ge_128, mb_ge_1, mb_lt_1, mb_ge_1f, mb_lt_1t, not_true, not_false_iff, false_implies, true_implies, true_and, and_true, forall_eq, forall_const, eq_self, mb_e10, z1, z2, z3, z4]
    exact mb_i I
  · by_cases r : st d = 0
    · obtain ⟨l, q, a1, a2, a3, a4, -⟩ := hG d (by omega)
      obtain ⟨c', kd', hm', lk', ht', sl', rev', st', pcs', regs', path', hx', he', flt', r', I2, jX, jY⟩ := mb_run hd v2 (l - q) c rev pcs regs kd hm lk ht sl path hx he flt l q 0 I a3 a4 a1 a2 (Nat.le_refl _)
      simp (disch := omega) only [wpX_run, wpX_domainExists, wpY_run, nI_clamp, vp_in_nI, nI_1, nI_add, mb_lt_t, mb_lt_f, mb_le_t, mb_le_f, mb_ne, mb_lt0, mb_le0, mb_m1, mb_m1l, mb_m1g, mb_m1n, mb_x2, mb_x4, mb_x32, mb_lt_4, mb_le_4, mb_ge_4, mb_gt_4, mb_le_3, mb_gt_3, mb_le_7, mb_gt_7, mb_lt_32, mb_ge_32, mb_lt_128, mb_ge_128, mb_ge_1, mb_lt_1, mb_ge_1f, mb_lt_1t, not_true, not_false_iff, false_implies, true_implies, true_and, and_true, forall_eq, forall_const, eq_self, mb_e10, r]
      refine ⟨l - q + 1, jX _ ?_ (l - q + 1) (by omega)⟩
      exact ⟨l - q + 1, jY _ ⟨rfl, mb_i I2⟩ (l - q + 1) (by omega)⟩
    · simp (disch := omega) only [wpX_run, wpX_domainExists, wpY_run, nI_clamp, vp_in_nI, nI_1, nI_add, mb_lt_t, mb_lt_f, mb_le_t, mb_le_f, mb_ne, mb_lt0, mb_le0, mb_m1, mb_m1l, mb_m1g, mb_m1n, mb_x2, mb_x4, mb_x32, mb_lt_4, mb_le_4, mb_ge_4, mb_gt_4, mb_le_3, mb_gt_3, mb_le_7, mb_gt_7, mb_lt_32, mb_ge_32, mb_lt_128, mb_ge_128, mb_ge_1, mb_lt_1, mb_ge_1f, mb_lt_1t, not_true, not_false_iff, false_implies, true_implies, true_and, and_true, forall_eq, forall_const, eq_self, mb_e10, r]
      exact mb_i I
theorem i_vc_emit {k : Nat} {u : SX} {v : SY} (I : i_Rel k u v) (hk : k + 5 ≤ 2562) (v1 : Int32) (v2 : Int32) (v3 : Int32) (v4 : Int32) : wpX_emit (fun r u' => wpY_emit (fun r' v' => r' = r ∧ i_Rel (k + 5) u' v') v v1 v2 v3 v4) u v1 v2 v3 v4 := by
  obtain ⟨n, p, nd, c, par, rev, st, pcs, regs, plen, pop, px, py, kd, hm, lk, ht, sl, path, hx, he, flt, rfl, rfl, I⟩ := I
  obtain ⟨H, hn8, hp8, hp, hP, hF, hR, hG⟩ := id I
  have hn : n ≤ 32 := H.2.1
  have hcn : c ≤ n := H.1
  have hnd : nd ≤ 4 := H.2.2.2.1
  have hnd1 : 1 ≤ nd := H.2.2.1
  rcases mb_ix v1 (n := nd) (by omega) with ⟨z1, z2⟩ | ⟨z1, z2, z3, z4⟩ | ⟨d, hd, rfl⟩
  · simp (disch := omega) only [wpX_emit, wpX_domainExists, wpX_isRegister, wpY_emit, nI_clamp, vp_in_nI, nI_1, nI_add, mb_lt_t, mb_lt_f, mb_le_t, mb_le_f, mb_ne, mb_lt0, mb_le0, mb_m1, mb_m1l, mb_m1g, mb_m1n, mb_x2, mb_x4, mb_x32, mb_lt_4, mb_le_4, mb_ge_4, mb_gt_4, mb_le_3, mb_gt_3, mb_le_7, mb_gt_7, mb_lt_32, mb_ge_32, mb_lt_128, mb_ge_128, mb_ge_1, mb_lt_1, mb_ge_1f, mb_lt_1t, not_true, not_false_iff, false_implies, true_implies, true_and, and_true, forall_eq, forall_const, eq_self, mb_e10, z1, z2]
    exact mb_i I
  · simp (disch := omega) only [wpX_emit, wpX_domainExists, wpX_isRegister, wpY_emit, nI_clamp, vp_in_nI, nI_1, nI_add, mb_lt_t, mb_lt_f, mb_le_t, mb_le_f, mb_ne, mb_lt0, mb_le0, mb_m1, mb_m1l, mb_m1g, mb_m1n, mb_x2, mb_x4, mb_x32, mb_lt_4, mb_le_4, mb_ge_4, mb_gt_4, mb_le_3, mb_gt_3, mb_le_7, mb_gt_7, mb_lt_32, mb_ge_32, mb_lt_128, mb_ge_128, mb_ge_1, mb_lt_1, mb_ge_1f, mb_lt_1t, not_true, not_false_iff, false_implies, true_implies, true_and, and_true, forall_eq, forall_const, eq_self, mb_e10, z1, z2, z3, z4]
    exact mb_i I
  · rcases mb_ix8 v2 with ⟨z1, z2⟩ | ⟨z1, z2, z3, z4⟩ | ⟨o, ho, rfl⟩
    · simp (disch := omega) only [wpX_emit, wpX_domainExists, wpX_isRegister, wpY_emit, nI_clamp, vp_in_nI, nI_1, nI_add, mb_lt_t, mb_lt_f, mb_le_t, mb_le_f, mb_ne, mb_lt0, mb_le0, mb_m1, mb_m1l, mb_m1g, mb_m1n, mb_x2, mb_x4, mb_x32, mb_lt_4, mb_le_4, mb_ge_4, mb_gt_4, mb_le_3, mb_gt_3, mb_le_7, mb_gt_7, mb_lt_32, mb_ge_32, mb_lt_128, mb_ge_128, mb_ge_1, mb_lt_1, mb_ge_1f, mb_lt_1t, not_true, not_false_iff, false_implies, true_implies, true_and, and_true, forall_eq, forall_const, eq_self, mb_e10, z1, z2]
      exact mb_i I
    · simp (disch := omega) only [wpX_emit, wpX_domainExists, wpX_isRegister, wpY_emit, nI_clamp, vp_in_nI, nI_1, nI_add, mb_lt_t, mb_lt_f, mb_le_t, mb_le_f, mb_ne, mb_lt0, mb_le0, mb_m1, mb_m1l, mb_m1g, mb_m1n, mb_x2, mb_x4, mb_x32, mb_lt_4, mb_le_4, mb_ge_4, mb_gt_4, mb_le_3, mb_gt_3, mb_le_7, mb_gt_7, mb_lt_32, mb_ge_32, mb_lt_128, mb_ge_128, mb_ge_1, mb_lt_1, mb_ge_1f, mb_lt_1t, not_true, not_false_iff, false_implies, true_implies, true_and, and_true, forall_eq, forall_const, eq_self, mb_e10, z1, z2, z3, z4]
      exact mb_i I
    · rcases mb_ix4 v3 with ⟨z1, z2⟩ | ⟨z1, z2, z3, z4, z5, z6⟩ | ⟨x, hx4, rfl⟩
      · simp (disch := omega) only [wpX_emit, wpX_domainExists, wpX_isRegister, wpY_emit, nI_clamp, vp_in_nI, nI_1, nI_add, mb_lt_t, mb_lt_f, mb_le_t, mb_le_f, mb_ne, mb_lt0, mb_le0, mb_m1, mb_m1l, mb_m1g, mb_m1n, mb_x2, mb_x4, mb_x32, mb_lt_4, mb_le_4, mb_ge_4, mb_gt_4, mb_le_3, mb_gt_3, mb_le_7, mb_gt_7, mb_lt_32, mb_ge_32, mb_lt_128, mb_ge_128, mb_ge_1, mb_lt_1, mb_ge_1f, mb_lt_1t, not_true, not_false_iff, false_implies, true_implies, true_and, and_true, forall_eq, forall_const, eq_self, mb_e10, z1, z2]
        exact mb_i I
      · simp (disch := omega) only [wpX_emit, wpX_domainExists, wpX_isRegister, wpY_emit, nI_clamp, vp_in_nI, nI_1, nI_add, mb_lt_t, mb_lt_f, mb_le_t, mb_le_f, mb_ne, mb_lt0, mb_le0, mb_m1, mb_m1l, mb_m1g, mb_m1n, mb_x2, mb_x4, mb_x32, mb_lt_4, mb_le_4, mb_ge_4, mb_gt_4, mb_le_3, mb_gt_3, mb_le_7, mb_gt_7, mb_lt_32, mb_ge_32, mb_lt_128, mb_ge_128, mb_ge_1, mb_lt_1, mb_ge_1f, mb_lt_1t, not_true, not_false_iff, false_implies, true_implies, true_and, and_true, forall_eq, forall_const, eq_self, mb_e10, z1, z2, z3, z4, z5, z6]
        exact mb_i I
      · rcases mb_ix4 v4 with ⟨z1, z2⟩ | ⟨z1, z2, z3, z4, z5, z6⟩ | ⟨y, hy4, rfl⟩
        · simp (disch := omega) only [wpX_emit, wpX_domainExists, wpX_isRegister, wpY_emit, nI_clamp, vp_in_nI, nI_1, nI_add, mb_lt_t, mb_lt_f, mb_le_t, mb_le_f, mb_ne, mb_lt0, mb_le0, mb_m1, mb_m1l, mb_m1g, mb_m1n, mb_x2, mb_x4, mb_x32, mb_lt_4, mb_le_4, mb_ge_4, mb_gt_4, mb_le_3, mb_gt_3, mb_le_7, mb_gt_7, mb_lt_32, mb_ge_32, mb_lt_128, mb_ge_128, mb_ge_1, mb_lt_1, mb_ge_1f, mb_lt_1t, not_true, not_false_iff, false_implies, true_implies, true_and, and_true, forall_eq, forall_const, eq_self, mb_e10, z1, z2]
          exact mb_i I
        · simp (disch := omega) only [wpX_emit, wpX_domainExists, wpX_isRegister, wpY_emit, nI_clamp, vp_in_nI, nI_1, nI_add, mb_lt_t, mb_lt_f, mb_le_t, mb_le_f, mb_ne, mb_lt0, mb_le0, mb_m1, mb_m1l, mb_m1g, mb_m1n, mb_x2, mb_x4, mb_x32, mb_lt_4, mb_le_4, mb_ge_4, mb_gt_4, mb_le_3, mb_gt_3, mb_le_7, mb_gt_7, mb_lt_32, mb_ge_32, mb_lt_128, mb_ge_128, mb_ge_1, mb_lt_1, mb_ge_1f, mb_lt_1t, not_true, not_false_iff, false_implies, true_implies, true_and, and_true, forall_eq, forall_const, eq_self, mb_e10, z1, z2, z3, z4, z5, z6]
          exact mb_i I
        · obtain ⟨l, q, a1, a2, a3, a4, -⟩ := hG d (by omega)
          by_cases hl : l < p
          · simp (disch := omega) only [wpX_emit, wpX_domainExists, wpX_isRegister, wpY_emit, nI_clamp, vp_in_nI, nI_1, nI_add, mb_lt_t, mb_lt_f, mb_le_t, mb_le_f, mb_ne, mb_lt0, mb_le0, mb_m1, mb_m1l, mb_m1g, mb_m1n, mb_x2, mb_x4, mb_x32, mb_lt_4, mb_le_4, mb_ge_4, mb_gt_4, mb_le_3, mb_gt_3, mb_le_7, mb_gt_7, mb_lt_32, mb_ge_32, mb_lt_128, mb_ge_128, mb_ge_1, mb_lt_1, mb_ge_1f, mb_lt_1t, not_true, not_false_iff, false_implies, true_implies, true_and, and_true, forall_eq, forall_const, eq_self, mb_e10, a3]
            exact mb_i ⟨H, hn8, hp8, hp, hP, mb_F_len hF hd _, hR, mb_G_emit hG (by omega) a3 (by omega) ho hx4 hy4⟩
          · simp (disch := omega) only [wpX_emit, wpX_domainExists, wpX_isRegister, wpY_emit, nI_clamp, vp_in_nI, nI_1, nI_add, mb_lt_t, mb_lt_f, mb_le_t, mb_le_f, mb_ne, mb_lt0, mb_le0, mb_m1, mb_m1l, mb_m1g, mb_m1n, mb_x2, mb_x4, mb_x32, mb_lt_4, mb_le_4, mb_ge_4, mb_gt_4, mb_le_3, mb_gt_3, mb_le_7, mb_gt_7, mb_lt_32, mb_ge_32, mb_lt_128, mb_ge_128, mb_ge_1, mb_lt_1, mb_ge_1f, mb_lt_1t, not_true, not_false_iff, false_implies, true_implies, true_and, and_true, forall_eq, forall_const, eq_self, mb_e10, a3]
            exact mb_i I
end
end
section
section
variable {n p nd c : Nat} {par rev st pcs regs plen pop px py kd hm lk ht sl path hx he : Nat → Int32} {flt : Int32}
/-- the reference writes a new domain's cells anew: they hold these values already -/
theorem my_ndl {post : Int32 → SY → Prop} {x1 : Int32} (hd : nd < 4) (hc : c < 32) (e1 : plen nd = 0) (e2 : pcs nd = 0) (e3 : st nd = 0) (e4 : ∀ r, r < 4 → regs (nd * 4 + r) = -1)
    (K : post (nI nd) (nI n, nI p, nI (nd + 1), nI (c + 1), flt, par, rev, regs, pop, px, py, plen, pcs, st, (upd kd c 2), (upd hm c x1), (upd lk c (nI nd)), (mb_ev (upd (upd sl (c * 2) (-1)) (c * 2 + 1) (-1))), (mb_od (upd (upd sl (c * 2) (-1)) (c * 2 + 1) (-1))), (upd ht c 0), hx, he)) :
    ∀ m i : Nat, i ≤ 4 → 4 - i < m → wY_newDomain_58 post x1 (nI nd) (nI n) (nI p) (nI nd) (nI c) flt m (nI i) par rev regs pop px py plen pcs st kd hm lk (mb_ev sl) (mb_od sl) ht hx he := by
  intro m
  induction m with
  | zero => intro i _ z; omega
  | succ m ih =>
    intro i hi z
    by_cases e : i = 4
    · subst e
      simp (disch := omega) only [wY_newDomain_58, nI_clamp, vp_in_nI, nI_1, nI_add, mb_lt_t, mb_lt_f, mb_le_t, mb_le_f, mb_ne, mb_lt0, mb_le0, mb_m1, mb_m1l, mb_m1g, mb_m1n, mb_x2, mb_x4, mb_x32, mb_lt_4, mb_le_4, mb_ge_4, mb_gt_4, mb_le_3, mb_gt_3, mb_le_7, mb_gt_7, mb_lt_32, mb_ge_32, mb_lt_128, mb_ge_128, mb_ge_1, mb_lt_1, mb_ge_1f, mb_lt_1t, not_true, not_false_iff, false_implies, true_implies, true_and, and_true, forall_eq, forall_const, eq_self, mb_e10, mb_upd_id e1, mb_upd_id e2, mb_upd_id e3]
      exact my_mk hc K
    · have K' := ih (i + 1) (by omega) (by omega)
      have a := e4 i (by omega)
      simp (disch := omega) only [wY_newDomain_58, nI_clamp, vp_in_nI, nI_1, nI_add, mb_lt_t, mb_lt_f, mb_le_t, mb_le_f, mb_ne, mb_lt0, mb_le0, mb_m1, mb_m1l, mb_m1g, mb_m1n, mb_x2, mb_x4, mb_x32, mb_lt_4, mb_le_4, mb_ge_4, mb_gt_4, mb_le_3, mb_gt_3, mb_le_7, mb_gt_7, mb_lt_32, mb_ge_32, mb_lt_128, mb_ge_128, mb_ge_1, mb_lt_1, mb_ge_1f, mb_lt_1t, not_true, not_false_iff, false_implies, true_implies, true_and, and_true, forall_eq, forall_const, eq_self, mb_e10, mb_upd_id a]
      exact K'
theorem i_vc_newDomain {k : Nat} {u : SX} {v : SY} (I : i_Rel k u v) (hk : k + 5 ≤ 2562) (v1 : Int32) : wpX_newDomain (fun r u' => wpY_newDomain (fun r' v' => r' = r ∧ i_Rel (k + 5) u' v') v v1) u v1 := by
  obtain ⟨n, p, nd, c, par, rev, st, pcs, regs, plen, pop, px, py, kd, hm, lk, ht, sl, path, hx, he, flt, rfl, rfl, I⟩ := I
  obtain ⟨H, hn8, hp8, hp, hP, hF, hR, hG⟩ := id I
  have hn : n ≤ 32 := H.2.1
  have hcn : c ≤ n := H.1
  have hnd : nd ≤ 4 := H.2.2.2.1
  have hnd1 : 1 ≤ nd := H.2.2.1
  rcases mb_ix v1 (n := nd) (by omega) with ⟨z1, z2⟩ | ⟨z1, z2, z3, z4⟩ | ⟨j, hj, rfl⟩
  · simp (disch := omega) only [wpX_newDomain, wpX_domainExists, wpY_newDomain, nI_clamp, vp_in_nI, nI_1, nI_add, mb_lt_t, mb_lt_f, mb_le_t, mb_le_f, mb_ne, mb_lt0, mb_le0, mb_m1, mb_m1l, mb_m1g, mb_m1n, mb_x2, mb_x4, mb_x32, mb_lt_4, mb_le_4, mb_ge_4, mb_gt_4, mb_le_3, mb_gt_3, mb_le_7, mb_gt_7, mb_lt_32, mb_ge_32, mb_lt_128, mb_ge_128, mb_ge_1, mb_lt_1, mb_ge_1f, mb_lt_1t, not_true, not_false_iff, false_implies, true_implies, true_and, and_true, forall_eq, forall_const, eq_self, mb_e10, z1, z2]
    exact mb_i I
  · simp (disch := omega) only [wpX_newDomain, wpX_domainExists, wpY_newDomain, nI_clamp, vp_in_nI, nI_1, nI_add, mb_lt_t, mb_lt_f, mb_le_t, mb_le_f, mb_ne, mb_lt0, mb_le0, mb_m1, mb_m1l, mb_m1g, mb_m1n, mb_x2, mb_x4, mb_x32, mb_lt_4, mb_le_4, mb_ge_4, mb_gt_4, mb_le_3, mb_gt_3, mb_le_7, mb_gt_7, mb_lt_32, mb_ge_32, mb_lt_128, mb_ge_128, mb_ge_1, mb_lt_1, mb_ge_1f, mb_lt_1t, not_true, not_false_iff, false_implies, true_implies, true_and, and_true, forall_eq, forall_const, eq_self, mb_e10, z1, z2, z3, z4]
    exact mb_i I
  · by_cases h4 : nd < 4
    · by_cases hc : c < n
      · obtain ⟨f1, f2, f3, f4, f5⟩ := hF nd (Nat.le_refl _) h4
        have f0 : upd rev nd (vp_nar .boolean 0) = rev := mb_upd_id (f1.trans mb_nar0.symm)
        simp (disch := omega) only [wpX_newDomain, wpX_domainExists, wpY_newDomain, nI_clamp, vp_in_nI, nI_1, nI_add, mb_lt_t, mb_lt_f, mb_le_t, mb_le_f, mb_ne, mb_lt0, mb_le0, mb_m1, mb_m1l, mb_m1g, mb_m1n, mb_x2, mb_x4, mb_x32, mb_lt_4, mb_le_4, mb_ge_4, mb_gt_4, mb_le_3, mb_gt_3, mb_le_7, mb_gt_7, mb_lt_32, mb_ge_32, mb_lt_128, mb_ge_128, mb_ge_1, mb_lt_1, mb_ge_1f, mb_lt_1t, not_true, not_false_iff, false_implies, true_implies, true_and, and_true, forall_eq, forall_const, eq_self, mb_e10, f0]
        refine mx_mk hc hn ?_
        refine ⟨5, my_ndl h4 (by omega) f4 f3 f2 f5 ?_ 5 0 (by omega) (by omega)⟩
        exact ⟨rfl, mb_i ⟨mb_mk (mb_nd H h4) hc ⟨⟨j, by omega, rfl⟩, Or.inr (Or.inl ⟨rfl, nd, hnd1, by omega, rfl⟩)⟩, hn8, hp8, hp, mb_P_nd hP hnd1 hj, mb_F_nd hF, mb_R_up hR (by omega), hG⟩⟩
      · simp (disch := omega) only [wpX_newDomain, wpX_domainExists, wpY_newDomain, nI_clamp, vp_in_nI, nI_1, nI_add, mb_lt_t, mb_lt_f, mb_le_t, mb_le_f, mb_ne, mb_lt0, mb_le0, mb_m1, mb_m1l, mb_m1g, mb_m1n, mb_x2, mb_x4, mb_x32, mb_lt_4, mb_le_4, mb_ge_4, mb_gt_4, mb_le_3, mb_gt_3, mb_le_7, mb_gt_7, mb_lt_32, mb_ge_32, mb_lt_128, mb_ge_128, mb_ge_1, mb_lt_1, mb_ge_1f, mb_lt_1t, not_true, not_false_iff, false_implies, true_implies, true_and, and_true, forall_eq, forall_const, eq_self, mb_e10]
        exact mb_i I
    · simp (disch := omega) only [wpX_newDomain, wpX_domainExists, wpY_newDomain, nI_clamp, vp_in_nI, nI_1, nI_add, mb_lt_t, mb_lt_f, mb_le_t, mb_le_f, mb_ne, mb_lt0, mb_le0, mb_m1, mb_m1l, mb_m1g, mb_m1n, mb_x2, mb_x4, mb_x32, mb_lt_4, mb_le_4, mb_ge_4, mb_gt_4, mb_le_3, mb_gt_3, mb_le_7, mb_gt_7, mb_lt_32, mb_ge_32, mb_lt_128, mb_ge_128, mb_ge_1, mb_lt_1, mb_ge_1f, mb_lt_1t, not_true, not_false_iff, false_implies, true_implies, true_and, and_true, forall_eq, forall_const, eq_self, mb_e10]
      exact mb_i I
/-- the two tests of adjacency say the same -/
theorem mx_adj {post : Int32 → Prop} {h d : Nat} (h1 : h < 4) (h2 : d < 4) (a : par h = nI d ∨ par d = nI h) (K : post 1) : wpX_areAdjacent post (nI n, nI p, nI nd, nI c, par, rev, st, pcs, regs, plen, pop, px, py, kd, hm, lk, ht, sl, path) (nI h) (nI d) := by
  by_cases e : par h = nI d
  · simp (disch := omega) only [wpX_areAdjacent, nI_clamp, vp_in_nI, nI_1, nI_add, mb_lt_t, mb_lt_f, mb_le_t, mb_le_f, mb_ne, mb_lt0, mb_le0, mb_m1, mb_m1l, mb_m1g, mb_m1n, mb_x2, mb_x4, mb_x32, mb_lt_4, mb_le_4, mb_ge_4, mb_gt_4, mb_le_3, mb_gt_3, mb_le_7, mb_gt_7, mb_lt_32, mb_ge_32, mb_lt_128, mb_ge_128, mb_ge_1, mb_lt_1, mb_ge_1f, mb_lt_1t, not_true, not_false_iff, false_implies, true_implies, true_and, and_true, forall_eq, forall_const, eq_self, mb_e10, e]
    exact K
  · have e' : par d = nI h := a.resolve_left e
    simp (disch := omega) only [wpX_areAdjacent, nI_clamp, vp_in_nI, nI_1, nI_add, mb_lt_t, mb_lt_f, mb_le_t, mb_le_f, mb_ne, mb_lt0, mb_le0, mb_m1, mb_m1l, mb_m1g, mb_m1n, mb_x2, mb_x4, mb_x32, mb_lt_4, mb_le_4, mb_ge_4, mb_gt_4, mb_le_3, mb_gt_3, mb_le_7, mb_gt_7, mb_lt_32, mb_ge_32, mb_lt_128, mb_ge_128, mb_ge_1, mb_lt_1, mb_ge_1f, mb_lt_1t, not_true, not_false_iff, false_implies, true_implies, true_and, and_true, forall_eq, forall_const, eq_self, mb_e10, e, e']
    exact K
theorem mx_nadj {post : Int32 → Prop} {h d : Nat} (h1 : h < 4) (h2 : d < 4) (a : ¬ (par h = nI d ∨ par d = nI h)) (K : post 0) : wpX_areAdjacent post (nI n, nI p, nI nd, nI c, par, rev, st, pcs, regs, plen, pop, px, py, kd, hm, lk, ht, sl, path) (nI h) (nI d) := by
  have e : ¬ par h = nI d := fun z => a (Or.inl z)
  have e' : ¬ par d = nI h := fun z => a (Or.inr z)
  simp (disch := omega) only [wpX_areAdjacent, nI_clamp, vp_in_nI, nI_1, nI_add, mb_lt_t, mb_lt_f, mb_le_t, mb_le_f, mb_ne, mb_lt0, mb_le0, mb_m1, mb_m1l, mb_m1g, mb_m1n, mb_x2, mb_x4, mb_x32, mb_lt_4, mb_le_4, mb_ge_4, mb_gt_4, mb_le_3, mb_gt_3, mb_le_7, mb_gt_7, mb_lt_32, mb_ge_32, mb_lt_128, mb_ge_128, mb_ge_1, mb_lt_1, mb_ge_1f, mb_lt_1t, not_true, not_false_iff, false_implies, true_implies, true_and, and_true, forall_eq, forall_const, eq_self, mb_e10, e, e']
  exact K
theorem my_147 {post : Int32 → SY → Prop} {d h : Nat} {x2 x3 : Int32} (h1 : h < 4) (h2 : d < 4)
    (K : wY_give_147 post (nI d) x2 x3 (nI h) (nI (mb_mx h d)) (nI n) (nI p) (nI nd) (nI c) flt par rev regs pop px py plen pcs st kd hm lk (mb_ev sl) (mb_od sl) ht hx he) : wY_give_121 post (nI d) x2 x3 (nI h) (nI n) (nI p) (nI nd) (nI c) flt par rev regs pop px py plen pcs st kd hm lk (mb_ev sl) (mb_od sl) ht hx he := by
  by_cases z : d < h
  · have emx : mb_mx h d = h := if_pos z
    rw [emx] at K
    simp (disch := omega) only [wY_give_121, wY_give_126, nI_clamp, vp_in_nI, nI_1, nI_add, mb_lt_t, mb_lt_f, mb_le_t, mb_le_f, mb_ne, mb_lt0, mb_le0, mb_m1, mb_m1l, mb_m1g, mb_m1n, mb_x2, mb_x4, mb_x32, mb_lt_4, mb_le_4, mb_ge_4, mb_gt_4, mb_le_3, mb_gt_3, mb_le_7, mb_gt_7, mb_lt_32, mb_ge_32, mb_lt_128, mb_ge_128, mb_ge_1, mb_lt_1, mb_ge_1f, mb_lt_1t, not_true, not_false_iff, false_implies, true_implies, true_and, and_true, forall_eq, forall_const, eq_self, mb_e10]
    exact K
  · have emx : mb_mx h d = d := if_neg z
    rw [emx] at K
    by_cases y : d ≤ h
    · have e : d = h := by omega
      subst e
      simp (disch := omega) only [wY_give_121, wY_give_126, nI_clamp, vp_in_nI, nI_1, nI_add, mb_lt_t, mb_lt_f, mb_le_t, mb_le_f, mb_ne, mb_lt0, mb_le0, mb_m1, mb_m1l, mb_m1g, mb_m1n, mb_x2, mb_x4, mb_x32, mb_lt_4, mb_le_4, mb_ge_4, mb_gt_4, mb_le_3, mb_gt_3, mb_le_7, mb_gt_7, mb_lt_32, mb_ge_32, mb_lt_128, mb_ge_128, mb_ge_1, mb_lt_1, mb_ge_1f, mb_lt_1t, not_true, not_false_iff, false_implies, true_implies, true_and, and_true, forall_eq, forall_const, eq_self, mb_e10]
      exact K
    · simp (disch := omega) only [wY_give_121, wY_give_126, nI_clamp, vp_in_nI, nI_1, nI_add, mb_lt_t, mb_lt_f, mb_le_t, mb_le_f, mb_ne, mb_lt0, mb_le0, mb_m1, mb_m1l, mb_m1g, mb_m1n, mb_x2, mb_x4, mb_x32, mb_lt_4, mb_le_4, mb_ge_4, mb_gt_4, mb_le_3, mb_gt_3, mb_le_7, mb_gt_7, mb_lt_32, mb_ge_32, mb_lt_128, mb_ge_128, mb_ge_1, mb_lt_1, mb_ge_1f, mb_lt_1t, not_true, not_false_iff, false_implies, true_implies, true_and, and_true, forall_eq, forall_const, eq_self, mb_e10]
      exact K
end
end
section
section
variable {n p nd c : Nat} {par rev st pcs regs plen pop px py kd hm lk ht sl path hx he : Nat → Int32} {flt : Int32}
theorem my_gadj {post : Int32 → SY → Prop} {d r j h : Nat} (hd : d < nd) (hnd : nd ≤ 4) (hr : r < 4) (hj : j < c) (hc : c ≤ 32) (hh : h < 4) (ehm : hm j = nI h) (hne : h ≠ d) (hP0 : par 0 = -1)
    (a : par h = nI d ∨ par d = nI h) (K : wY_give_147 post (nI d) (nI r) (nI j) (nI h) (nI (mb_mx h d)) (nI n) (nI p) (nI nd) (nI c) flt par rev regs pop px py plen pcs st kd hm lk (mb_ev sl) (mb_od sl) ht hx he) : wpY_give post (nI n, nI p, nI nd, nI c, flt, par, rev, regs, pop, px, py, plen, pcs, st, kd, hm, lk, mb_ev sl, mb_od sl, ht, hx, he) (nI d) (nI r) (nI j) := by
  have K1 := my_147 (by omega) (by omega) K
  by_cases e : par d = nI h
  · have d1 : 1 ≤ d := by
      by_cases z : d = 0
      · rw [z, hP0] at e; exact absurd e.symm (mb_n1 (by omega))
      · omega
    simp (disch := omega) only [wpY_give, nI_clamp, vp_in_nI, nI_1, nI_add, mb_lt_t, mb_lt_f, mb_le_t, mb_le_f, mb_ne, mb_lt0, mb_le0, mb_m1, mb_m1l, mb_m1g, mb_m1n, mb_x2, mb_x4, mb_x32, mb_lt_4, mb_le_4, mb_ge_4, mb_gt_4, mb_le_3, mb_gt_3, mb_le_7, mb_gt_7, mb_lt_32, mb_ge_32, mb_lt_128, mb_ge_128, mb_ge_1, mb_lt_1, mb_ge_1f, mb_lt_1t, not_true, not_false_iff, false_implies, true_implies, true_and, and_true, forall_eq, forall_const, eq_self, mb_e10, ehm, e]
    exact K1
  · have e1 : par h = nI d := a.resolve_right e
    have e2 : ¬ nI h = par d := fun z => e z.symm
    have h1 : 1 ≤ h := by
      by_cases z : h = 0
      · rw [z, hP0] at e1; exact absurd e1.symm (mb_n1 (by omega))
      · omega
    by_cases d1 : d < 1
    · simp (disch := omega) only [wpY_give, wY_give_98, nI_clamp, vp_in_nI, nI_1, nI_add, mb_lt_t, mb_lt_f, mb_le_t, mb_le_f, mb_ne, mb_lt0, mb_le0, mb_m1, mb_m1l, mb_m1g, mb_m1n, mb_x2, mb_x4, mb_x32, mb_lt_4, mb_le_4, mb_ge_4, mb_gt_4, mb_le_3, mb_gt_3, mb_le_7, mb_gt_7, mb_lt_32, mb_ge_32, mb_lt_128, mb_ge_128, mb_ge_1, mb_lt_1, mb_ge_1f, mb_lt_1t, not_true, not_false_iff, false_implies, true_implies, true_and, and_true, forall_eq, forall_const, eq_self, mb_e10, ehm, e1]
      exact K1
    · simp (disch := omega) only [wpY_give, wY_give_98, nI_clamp, vp_in_nI, nI_1, nI_add, mb_lt_t, mb_lt_f, mb_le_t, mb_le_f, mb_ne, mb_lt0, mb_le0, mb_m1, mb_m1l, mb_m1g, mb_m1n, mb_x2, mb_x4, mb_x32, mb_lt_4, mb_le_4, mb_ge_4, mb_gt_4, mb_le_3, mb_gt_3, mb_le_7, mb_gt_7, mb_lt_32, mb_ge_32, mb_lt_128, mb_ge_128, mb_ge_1, mb_lt_1, mb_ge_1f, mb_lt_1t, not_true, not_false_iff, false_implies, true_implies, true_and, and_true, forall_eq, forall_const, eq_self, mb_e10, ehm, e1, e2]
      exact K1
theorem my_gnad {post : Int32 → SY → Prop} {d r j h : Nat} (hd : d < nd) (hnd : nd ≤ 4) (hr : r < 4) (hj : j < c) (hc : c ≤ 32) (hh : h < 4) (ehm : hm j = nI h) (hne : h ≠ d)
    (a : ¬ (par h = nI d ∨ par d = nI h)) (K : post 0 (nI n, nI p, nI nd, nI c, flt, par, rev, regs, pop, px, py, plen, pcs, st, kd, hm, lk, mb_ev sl, mb_od sl, ht, hx, he)) : wpY_give post (nI n, nI p, nI nd, nI c, flt, par, rev, regs, pop, px, py, plen, pcs, st, kd, hm, lk, mb_ev sl, mb_od sl, ht, hx, he) (nI d) (nI r) (nI j) := by
  have e1 : ¬ par h = nI d := fun z => a (Or.inl z)
  have e2 : ¬ nI h = par d := fun z => a (Or.inr z.symm)
  by_cases d1 : d < 1
  · by_cases h1 : h < 1
    · omega
    · simp (disch := omega) only [wpY_give, wY_give_98, wY_give_125, wY_give_126, nI_clamp, vp_in_nI, nI_1, nI_add, mb_lt_t, mb_lt_f, mb_le_t, mb_le_f, mb_ne, mb_lt0, mb_le0, mb_m1, mb_m1l, mb_m1g, mb_m1n, mb_x2, mb_x4, mb_x32, mb_lt_4, mb_le_4, mb_ge_4, mb_gt_4, mb_le_3, mb_gt_3, mb_le_7, mb_gt_7, mb_lt_32, mb_ge_32, mb_lt_128, mb_ge_128, mb_ge_1, mb_lt_1, mb_ge_1f, mb_lt_1t, not_true, not_false_iff, false_implies, true_implies, true_and, and_true, forall_eq, forall_const, eq_self, mb_e10, ehm, e1]
      exact K
  · by_cases h1 : h < 1
    · simp (disch := omega) only [wpY_give, wY_give_98, wY_give_125, wY_give_126, nI_clamp, vp_in_nI, nI_1, nI_add, mb_lt_t, mb_lt_f, mb_le_t, mb_le_f, mb_ne, mb_lt0, mb_le0, mb_m1, mb_m1l, mb_m1g, mb_m1n, mb_x2, mb_x4, mb_x32, mb_lt_4, mb_le_4, mb_ge_4, mb_gt_4, mb_le_3, mb_gt_3, mb_le_7, mb_gt_7, mb_lt_32, mb_ge_32, mb_lt_128, mb_ge_128, mb_ge_1, mb_lt_1, mb_ge_1f, mb_lt_1t, not_true, not_false_iff, false_implies, true_implies, true_and, and_true, forall_eq, forall_const, eq_self, mb_e10, ehm, e2]
      exact K
    · simp (disch := omega) only [wpY_give, wY_give_98, wY_give_125, wY_give_126, nI_clamp, vp_in_nI, nI_1, nI_add, mb_lt_t, mb_lt_f, mb_le_t, mb_le_f, mb_ne, mb_lt0, mb_le0, mb_m1, mb_m1l, mb_m1g, mb_m1n, mb_x2, mb_x4, mb_x32, mb_lt_4, mb_le_4, mb_ge_4, mb_gt_4, mb_le_3, mb_gt_3, mb_le_7, mb_gt_7, mb_lt_32, mb_ge_32, mb_lt_128, mb_ge_128, mb_ge_1, mb_lt_1, mb_ge_1f, mb_lt_1t, not_true, not_false_iff, false_implies, true_implies, true_and, and_true, forall_eq, forall_const, eq_self, mb_e10, ehm, e1, e2]
      exact K
theorem i_vc_give {k : Nat} {u : SX} {v : SY} (I : i_Rel k u v) (hk : k + 5 ≤ 2562) (v1 : Int32) (v2 : Int32) (v3 : Int32) : wpX_give (fun r u' => wpY_give (fun r' v' => r' = r ∧ i_Rel (k + 5) u' v') v v1 v2 v3) u v1 v2 v3 := by
  obtain ⟨n, p, nd, c, par, rev, st, pcs, regs, plen, pop, px, py, kd, hm, lk, ht, sl, path, hx, he, flt, rfl, rfl, I⟩ := I
  obtain ⟨H, hn8, hp8, hp, hP, hF, hR, hG⟩ := id I
  have hn : n ≤ 32 := H.2.1
  have hcn : c ≤ n := H.1
  have hnd : nd ≤ 4 := H.2.2.2.1
  have hnd1 : 1 ≤ nd := H.2.2.1
  have m1 : (-1 : Int32) ≤ -1 := by decide
  have m3 : ¬ (-1 : Int32) ≤ -3 := by decide
  have m4 : ¬ (-1 : Int32) ≤ -4 := by decide
  rcases mb_ix v1 (n := nd) (by omega) with ⟨z1, z2⟩ | ⟨z1, z2, z3, z4⟩ | ⟨d, hd, rfl⟩
  · simp (disch := omega) only [wpX_give, wpX_domainExists, wpX_isRegister, wpY_give, nI_clamp, vp_in_nI, nI_1, nI_add, mb_lt_t, mb_lt_f, mb_le_t, mb_le_f, mb_ne, mb_lt0, mb_le0, mb_m1, mb_m1l, mb_m1g, mb_m1n, mb_x2, mb_x4, mb_x32, mb_lt_4, mb_le_4, mb_ge_4, mb_gt_4, mb_le_3, mb_gt_3, mb_le_7, mb_gt_7, mb_lt_32, mb_ge_32, mb_lt_128, mb_ge_128, mb_ge_1, mb_lt_1, mb_ge_1f, mb_lt_1t, not_true, not_false_iff, false_implies, true_implies, true_and, and_true, forall_eq, forall_const, eq_self, mb_e10, z1, z2]
    exact mb_i I
  · simp (disch := omega) only [wpX_give, wpX_domainExists, wpX_isRegister, wpY_give, nI_clamp, vp_in_nI, nI_1, nI_add, mb_lt_t, mb_lt_f, mb_le_t, mb_le_f, mb_ne, mb_lt0, mb_le0, mb_m1, mb_m1l, mb_m1g, mb_m1n, mb_x2, mb_x4, mb_x32, mb_lt_4, mb_le_4, mb_ge_4, mb_gt_4, mb_le_3, mb_gt_3, mb_le_7, mb_gt_7, mb_lt_32, mb_ge_32, mb_lt_128, mb_ge_128, mb_ge_1, mb_lt_1, mb_ge_1f, mb_lt_1t, not_true, not_false_iff, false_implies, true_implies, true_and, and_true, forall_eq, forall_const, eq_self, mb_e10, z1, z2, z3, z4]
    exact mb_i I
  · rcases mb_ix4 v2 with ⟨z1, z2⟩ | ⟨z1, z2, z3, z4, z5, z6⟩ | ⟨r, hr, rfl⟩
    · simp (disch := omega) only [wpX_give, wpX_domainExists, wpX_isRegister, wpY_give, nI_clamp, vp_in_nI, nI_1, nI_add, mb_lt_t, mb_lt_f, mb_le_t, mb_le_f, mb_ne, mb_lt0, mb_le0, mb_m1, mb_m1l, mb_m1g, mb_m1n, mb_x2, mb_x4, mb_x32, mb_lt_4, mb_le_4, mb_ge_4, mb_gt_4, mb_le_3, mb_gt_3, mb_le_7, mb_gt_7, mb_lt_32, mb_ge_32, mb_lt_128, mb_ge_128, mb_ge_1, mb_lt_1, mb_ge_1f, mb_lt_1t, not_true, not_false_iff, false_implies, true_implies, true_and, and_true, forall_eq, forall_const, eq_self, mb_e10, z1, z2]
      exact mb_i I
    · simp (disch := omega) only [wpX_give, wpX_domainExists, wpX_isRegister, wpY_give, nI_clamp, vp_in_nI, nI_1, nI_add, mb_lt_t, mb_lt_f, mb_le_t, mb_le_f, mb_ne, mb_lt0, mb_le0, mb_m1, mb_m1l, mb_m1g, mb_m1n, mb_x2, mb_x4, mb_x32, mb_lt_4, mb_le_4, mb_ge_4, mb_gt_4, mb_le_3, mb_gt_3, mb_le_7, mb_gt_7, mb_lt_32, mb_ge_32, mb_lt_128, mb_ge_128, mb_ge_1, mb_lt_1, mb_ge_1f, mb_lt_1t, not_true, not_false_iff, false_implies, true_implies, true_and, and_true, forall_eq, forall_const, eq_self, mb_e10, z1, z2, z3, z4, z5, z6]
      exact mb_i I
    · by_cases w : v3 = -1
      · subst w
        simp (disch := omega) only [wpX_give, wpX_domainExists, wpX_isRegister, wpY_give, nI_clamp, vp_in_nI, nI_1, nI_add, mb_lt_t, mb_lt_f, mb_le_t, mb_le_f, mb_ne, mb_lt0, mb_le0, mb_m1, mb_m1l, mb_m1g, mb_m1n, mb_x2, mb_x4, mb_x32, mb_lt_4, mb_le_4, mb_ge_4, mb_gt_4, mb_le_3, mb_gt_3, mb_le_7, mb_gt_7, mb_lt_32, mb_ge_32, mb_lt_128, mb_ge_128, mb_ge_1, mb_lt_1, mb_ge_1f, mb_lt_1t, not_true, not_false_iff, false_implies, true_implies, true_and, and_true, forall_eq, forall_const, eq_self, mb_e10, wX_give_43, wpX_isFault, m1]
        exact mb_i ⟨H, hn8, hp8, hp, hP, mb_F_reg hF hd hr _, mb_R_set hR _ (Or.inl rfl), hG⟩
      · rcases mb_ix v3 (n := c) (by omega) with ⟨z1, z2⟩ | ⟨z1, z2, z3, z4⟩ | ⟨j, hj, rfl⟩
        · simp (disch := omega) only [wpX_give, wpX_domainExists, wpX_isRegister, wpY_give, nI_clamp, vp_in_nI, nI_1, nI_add, mb_lt_t, mb_lt_f, mb_le_t, mb_le_f, mb_ne, mb_lt0, mb_le0, mb_m1, mb_m1l, mb_m1g, mb_m1n, mb_x2, mb_x4, mb_x32, mb_lt_4, mb_le_4, mb_ge_4, mb_gt_4, mb_le_3, mb_gt_3, mb_le_7, mb_gt_7, mb_lt_32, mb_ge_32, mb_lt_128, mb_ge_128, mb_ge_1, mb_lt_1, mb_ge_1f, mb_lt_1t, not_true, not_false_iff, false_implies, true_implies, true_and, and_true, forall_eq, forall_const, eq_self, mb_e10, wpX_objectExists, w, z1, z2]
          exact mb_i I
        · simp (disch := omega) only [wpX_give, wpX_domainExists, wpX_isRegister, wpY_give, nI_clamp, vp_in_nI, nI_1, nI_add, mb_lt_t, mb_lt_f, mb_le_t, mb_le_f, mb_ne, mb_lt0, mb_le0, mb_m1, mb_m1l, mb_m1g, mb_m1n, mb_x2, mb_x4, mb_x32, mb_lt_4, mb_le_4, mb_ge_4, mb_gt_4, mb_le_3, mb_gt_3, mb_le_7, mb_gt_7, mb_lt_32, mb_ge_32, mb_lt_128, mb_ge_128, mb_ge_1, mb_lt_1, mb_ge_1f, mb_lt_1t, not_true, not_false_iff, false_implies, true_implies, true_and, and_true, forall_eq, forall_const, eq_self, mb_e10, wpX_objectExists, w, z1, z2, z3, z4]
          exact mb_i I
        · obtain ⟨h, hh, ehm⟩ := (mb_H_ob H hj).1
          by_cases hne : h = d
          · subst hne
            simp (disch := omega) only [wpX_give, wpX_domainExists, wpX_isRegister, wpY_give, nI_clamp, vp_in_nI, nI_1, nI_add, mb_lt_t, mb_lt_f, mb_le_t, mb_le_f, mb_ne, mb_lt0, mb_le0, mb_m1, mb_m1l, mb_m1g, mb_m1n, mb_x2, mb_x4, mb_x32, mb_lt_4, mb_le_4, mb_ge_4, mb_gt_4, mb_le_3, mb_gt_3, mb_le_7, mb_gt_7, mb_lt_32, mb_ge_32, mb_lt_128, mb_ge_128, mb_ge_1, mb_lt_1, mb_ge_1f, mb_lt_1t, not_true, not_false_iff, false_implies, true_implies, true_and, and_true, forall_eq, forall_const, eq_self, mb_e10, wpX_objectExists, wpX_bring, wX_give_43, wpX_isFault, ehm]
            exact mb_i ⟨H, hn8, hp8, hp, hP, mb_F_reg hF hd hr _, mb_R_set hR _ (Or.inr ⟨j, hj, rfl⟩), hG⟩
          · by_cases a : par h = nI d ∨ par d = nI h
            · have hmx := mb_mx_lt (d := 4) (show h < 4 by omega) (show d < 4 by omega)
              by_cases rv : rev (mb_mx h d) = 0
              · obtain ⟨c1, kd1, hm1, lk1, ht1, sl1, aX, aY, H1, E1, hA, cX, cY⟩ := mb_carry H (Or.inr ⟨j, hj, rfl⟩) hh hd ht
                have hc1 : c1 ≤ 32 := Nat.le_trans H1.1 H1.2.1
                simp (disch := omega) only [wpX_give, wpX_domainExists, wpX_isRegister, wpX_objectExists, wpX_bring, nI_clamp, vp_in_nI, nI_1, nI_add, mb_lt_t, mb_lt_f, mb_le_t, mb_le_f, mb_ne, mb_lt0, mb_le0, mb_m1, mb_m1l, mb_m1g, mb_m1n, mb_x2, mb_x4, mb_x32, mb_lt_4, mb_le_4, mb_ge_4, mb_gt_4, mb_le_3, mb_gt_3, mb_le_7, mb_gt_7, mb_lt_32, mb_ge_32, mb_lt_128, mb_ge_128, mb_ge_1, mb_lt_1, mb_ge_1f, mb_lt_1t, not_true, not_false_iff, false_implies, true_implies, true_and, and_true, forall_eq, forall_const, eq_self, mb_e10, ehm]
                refine mx_adj (by omega) (by omega) a ?_
                simp (disch := omega) only [mx_mbE, nI_clamp, vp_in_nI, nI_1, nI_add, mb_lt_t, mb_lt_f, mb_le_t, mb_le_f, mb_ne, mb_lt0, mb_le0, mb_m1, mb_m1l, mb_m1g, mb_m1n, mb_x2, mb_x4, mb_x32, mb_lt_4, mb_le_4, mb_ge_4, mb_gt_4, mb_le_3, mb_gt_3, mb_le_7, mb_gt_7, mb_lt_32, mb_ge_32, mb_lt_128, mb_ge_128, mb_ge_1, mb_lt_1, mb_ge_1f, mb_lt_1t, not_true, not_false_iff, false_implies, true_implies, true_and, and_true, forall_eq, forall_const, eq_self, mb_e10, rv]
                refine cX p par rev st pcs regs plen pop px py path _ ?_
                rcases hA with ⟨r1, rfl⟩ | ⟨rfl, rfl⟩
                · obtain ⟨q1, q2⟩ := mb_ref_le r1 hc1
                  simp (disch := omega) only [wX_give_43, wpX_isFault, nI_clamp, vp_in_nI, nI_1, nI_add, mb_lt_t, mb_lt_f, mb_le_t, mb_le_f, mb_ne, mb_lt0, mb_le0, mb_m1, mb_m1l, mb_m1g, mb_m1n, mb_x2, mb_x4, mb_x32, mb_lt_4, mb_le_4, mb_ge_4, mb_gt_4, mb_le_3, mb_gt_3, mb_le_7, mb_gt_7, mb_lt_32, mb_ge_32, mb_lt_128, mb_ge_128, mb_ge_1, mb_lt_1, mb_ge_1f, mb_lt_1t, not_true, not_false_iff, false_implies, true_implies, true_and, and_true, forall_eq, forall_const, eq_self, mb_e10, q1]
                  refine my_gadj hd hnd hr hj (by omega) (by omega) ehm hne hP.1 a ?_
                  simp (disch := omega) only [wY_give_147, nI_clamp, vp_in_nI, nI_1, nI_add, mb_lt_t, mb_lt_f, mb_le_t, mb_le_f, mb_ne, mb_lt0, mb_le0, mb_m1, mb_m1l, mb_m1g, mb_m1n, mb_x2, mb_x4, mb_x32, mb_lt_4, mb_le_4, mb_ge_4, mb_gt_4, mb_le_3, mb_gt_3, mb_le_7, mb_gt_7, mb_lt_32, mb_ge_32, mb_lt_128, mb_ge_128, mb_ge_1, mb_lt_1, mb_ge_1f, mb_lt_1t, not_true, not_false_iff, false_implies, true_implies, true_and, and_true, forall_eq, forall_const, eq_self, mb_e10, rv]
                  refine cY p flt par rev regs pop px py plen pcs st hx he _ ?_
                  simp (disch := omega) only [nI_clamp, vp_in_nI, nI_1, nI_add, mb_lt_t, mb_lt_f, mb_le_t, mb_le_f, mb_ne, mb_lt0, mb_le0, mb_m1, mb_m1l, mb_m1g, mb_m1n, mb_x2, mb_x4, mb_x32, mb_lt_4, mb_le_4, mb_ge_4, mb_gt_4, mb_le_3, mb_gt_3, mb_le_7, mb_gt_7, mb_lt_32, mb_ge_32, mb_lt_128, mb_ge_128, mb_ge_1, mb_lt_1, mb_ge_1f, mb_lt_1t, not_true, not_false_iff, false_implies, true_implies, true_and, and_true, forall_eq, forall_const, eq_self, mb_e10, q2]
                  exact mb_i ⟨H1, hn8, hp8, hp, hP, mb_F_reg hF hd hr _, mb_R_set (mb_R_up hR E1.1) _ r1, hG⟩
                · simp (disch := omega) only [wX_give_43, wpX_isFault, nI_clamp, vp_in_nI, nI_1, nI_add, mb_lt_t, mb_lt_f, mb_le_t, mb_le_f, mb_ne, mb_lt0, mb_le0, mb_m1, mb_m1l, mb_m1g, mb_m1n, mb_x2, mb_x4, mb_x32, mb_lt_4, mb_le_4, mb_ge_4, mb_gt_4, mb_le_3, mb_gt_3, mb_le_7, mb_gt_7, mb_lt_32, mb_ge_32, mb_lt_128, mb_ge_128, mb_ge_1, mb_lt_1, mb_ge_1f, mb_lt_1t, not_true, not_false_iff, false_implies, true_implies, true_and, and_true, forall_eq, forall_const, eq_self, mb_e10, m4]
                  refine my_gadj hd hnd hr hj (by omega) (by omega) ehm hne hP.1 a ?_
                  simp (disch := omega) only [wY_give_147, nI_clamp, vp_in_nI, nI_1, nI_add, mb_lt_t, mb_lt_f, mb_le_t, mb_le_f, mb_ne, mb_lt0, mb_le0, mb_m1, mb_m1l, mb_m1g, mb_m1n, mb_x2, mb_x4, mb_x32, mb_lt_4, mb_le_4, mb_ge_4, mb_gt_4, mb_le_3, mb_gt_3, mb_le_7, mb_gt_7, mb_lt_32, mb_ge_32, mb_lt_128, mb_ge_128, mb_ge_1, mb_lt_1, mb_ge_1f, mb_lt_1t, not_true, not_false_iff, false_implies, true_implies, true_and, and_true, forall_eq, forall_const, eq_self, mb_e10, rv]
                  refine cY p flt par rev regs pop px py plen pcs st hx he _ ?_
                  simp (disch := omega) only [nI_clamp, vp_in_nI, nI_1, nI_add, mb_lt_t, mb_lt_f, mb_le_t, mb_le_f, mb_ne, mb_lt0, mb_le0, mb_m1, mb_m1l, mb_m1g, mb_m1n, mb_x2, mb_x4, mb_x32, mb_lt_4, mb_le_4, mb_ge_4, mb_gt_4, mb_le_3, mb_gt_3, mb_le_7, mb_gt_7, mb_lt_32, mb_ge_32, mb_lt_128, mb_ge_128, mb_ge_1, mb_lt_1, mb_ge_1f, mb_lt_1t, not_true, not_false_iff, false_implies, true_implies, true_and, and_true, forall_eq, forall_const, eq_self, mb_e10]
                  exact mb_i ⟨H1, hn8, hp8, hp, hP, hF, mb_R_up hR E1.1, hG⟩
              · simp (disch := omega) only [wpX_give, wpX_domainExists, wpX_isRegister, wpX_objectExists, wpX_bring, nI_clamp, vp_in_nI, nI_1, nI_add, mb_lt_t, mb_lt_f, mb_le_t, mb_le_f, mb_ne, mb_lt0, mb_le0, mb_m1, mb_m1l, mb_m1g, mb_m1n, mb_x2, mb_x4, mb_x32, mb_lt_4, mb_le_4, mb_ge_4, mb_gt_4, mb_le_3, mb_gt_3, mb_le_7, mb_gt_7, mb_lt_32, mb_ge_32, mb_lt_128, mb_ge_128, mb_ge_1, mb_lt_1, mb_ge_1f, mb_lt_1t, not_true, not_false_iff, false_implies, true_implies, true_and, and_true, forall_eq, forall_const, eq_self, mb_e10, ehm]
                refine mx_adj (by omega) (by omega) a ?_
                simp (disch := omega) only [mx_mbE, wX_give_43, wpX_isFault, nI_clamp, vp_in_nI, nI_1, nI_add, mb_lt_t, mb_lt_f, mb_le_t, mb_le_f, mb_ne, mb_lt0, mb_le0, mb_m1, mb_m1l, mb_m1g, mb_m1n, mb_x2, mb_x4, mb_x32, mb_lt_4, mb_le_4, mb_ge_4, mb_gt_4, mb_le_3, mb_gt_3, mb_le_7, mb_gt_7, mb_lt_32, mb_ge_32, mb_lt_128, mb_ge_128, mb_ge_1, mb_lt_1, mb_ge_1f, mb_lt_1t, not_true, not_false_iff, false_implies, true_implies, true_and, and_true, forall_eq, forall_const, eq_self, mb_e10, rv, m3]
                refine my_gadj hd hnd hr hj (by omega) (by omega) ehm hne hP.1 a ?_
                simp (disch := omega) only [wY_give_147, nI_clamp, vp_in_nI, nI_1, nI_add, mb_lt_t, mb_lt_f, mb_le_t, mb_le_f, mb_ne, mb_lt0, mb_le0, mb_m1, mb_m1l, mb_m1g, mb_m1n, mb_x2, mb_x4, mb_x32, mb_lt_4, mb_le_4, mb_ge_4, mb_gt_4, mb_le_3, mb_gt_3, mb_le_7, mb_gt_7, mb_lt_32, mb_ge_32, mb_lt_128, mb_ge_128, mb_ge_1, mb_lt_1, mb_ge_1f, mb_lt_1t, not_true, not_false_iff, false_implies, true_implies, true_and, and_true, forall_eq, forall_const, eq_self, mb_e10, rv]
                exact mb_i I
            · simp (disch := omega) only [wpX_give, wpX_domainExists, wpX_isRegister, wpX_objectExists, wpX_bring, nI_clamp, vp_in_nI, nI_1, nI_add, mb_lt_t, mb_lt_f, mb_le_t, mb_le_f, mb_ne, mb_lt0, mb_le0, mb_m1, mb_m1l, mb_m1g, mb_m1n, mb_x2, mb_x4, mb_x32, mb_lt_4, mb_le_4, mb_ge_4, mb_gt_4, mb_le_3, mb_gt_3, mb_le_7, mb_gt_7, mb_lt_32, mb_ge_32, mb_lt_128, mb_ge_128, mb_ge_1, mb_lt_1, mb_ge_1f, mb_lt_1t, not_true, not_false_iff, false_implies, true_implies, true_and, and_true, forall_eq, forall_const, eq_self, mb_e10, ehm]
              refine mx_nadj (by omega) (by omega) a ?_
              simp (disch := omega) only [wX_give_43, wpX_isFault, nI_clamp, vp_in_nI, nI_1, nI_add, mb_lt_t, mb_lt_f, mb_le_t, mb_le_f, mb_ne, mb_lt0, mb_le0, mb_m1, mb_m1l, mb_m1g, mb_m1n, mb_x2, mb_x4, mb_x32, mb_lt_4, mb_le_4, mb_ge_4, mb_gt_4, mb_le_3, mb_gt_3, mb_le_7, mb_gt_7, mb_lt_32, mb_ge_32, mb_lt_128, mb_ge_128, mb_ge_1, mb_lt_1, mb_ge_1f, mb_lt_1t, not_true, not_false_iff, false_implies, true_implies, true_and, and_true, forall_eq, forall_const, eq_self, mb_e10, m3]
              exact my_gnad hd hnd hr hj (by omega) (by omega) ehm hne a ⟨rfl, mb_i I⟩
end
end
