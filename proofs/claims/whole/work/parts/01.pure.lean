section
theorem pk_us {f : Nat → Int32} {k : Nat} {x : Int32} : upd f k x k = x := if_pos rfl
theorem pk_un {f : Nat → Int32} {k j : Nat} {x : Int32} (h : j ≠ k) : upd f k x j = f j := if_neg h
theorem pk_sub {a b : Nat} (h : b ≤ a) : nI a - nI b = nI (a - b) := by
  obtain ⟨c, rfl⟩ : ∃ c, a = c + b := ⟨a - b, by omega⟩
  rw [← nI_add, Int32.add_sub_cancel, Nat.add_sub_cancel]
theorem pk_m1 (n : Nat) : nI (n + 1) + (-1) = nI n := by
  rw [← nI_1, Int32.add_assoc, show (1 : Int32) + (-1) = 0 from rfl, Int32.add_zero]
theorem pk_mul (a b : Nat) : nI a * nI b = nI (a * b) := (Int32.ofNat_mul a b).symm
theorem pk_ix (x : Int32) {n : Nat} (hn : n < 2 ^ 31) : x < 0 ∨ nI n ≤ x ∨ ∃ j : Nat, j < n ∧ x = nI j := by
  by_cases h : x < 0
  · exact Or.inl h
  · obtain ⟨j, hj, rfl⟩ := nI_of h
    by_cases h2 : j < n
    · exact Or.inr (Or.inr ⟨j, h2, rfl⟩)
    · exact Or.inr (Or.inl (nI_le (by omega) hj))
theorem pk_le {x y : Int32} {A B : Prop} (a b : Nat) (f : a ≤ b → A) (g : b < a → B) (hx : x = nI a := by rfl) (hy : y = nI b := by rfl) (ha : a < 2 ^ 31 := by omega) (hb : b < 2 ^ 31 := by omega) : (x ≤ y → A) ∧ (¬ x ≤ y → B) := by
  subst hx hy
  rw [nI_leI ha hb]
  exact ⟨f, fun z => g (by omega)⟩
theorem pk_lt {x y : Int32} {A B : Prop} (a b : Nat) (f : a < b → A) (g : b ≤ a → B) (hx : x = nI a := by rfl) (hy : y = nI b := by rfl) (ha : a < 2 ^ 31 := by omega) (hb : b < 2 ^ 31 := by omega) : (x < y → A) ∧ (¬ x < y → B) := by
  subst hx hy
  rw [nI_ltI ha hb]
  exact ⟨f, fun z => g (by omega)⟩
theorem pk_eq {x y : Int32} {A B : Prop} (a b : Nat) (f : a = b → A) (g : a ≠ b → B) (hx : x = nI a := by rfl) (hy : y = nI b := by rfl) (ha : a < 2 ^ 31 := by omega) (hb : b < 2 ^ 31 := by omega) : (x = y → A) ∧ (¬ x = y → B) := by
  subst hx hy
  rw [nI_eq ha hb]
  exact ⟨f, g⟩
theorem pk_in {x : Int32} (n N : Nat) (h : n < N) (hx : x = nI n := by rfl) (hN : N < 2 ^ 31 := by omega) : vp_in x N := by
  subst hx
  exact vp_in_nI h hN
theorem pk_cl {x : Int32} (n : Nat) (hx : x = nI n := by rfl) (h : n < 2 ^ 31 := by omega) : x.toNatClampNeg = n := by
  subst hx
  exact nI_clamp h

/-! the pure side: references, objects, the heap's invariant -/
def mb_ref (c : Nat) (r : Int32) : Prop := r = -1 ∨ ∃ j : Nat, j < c ∧ r = nI j
def mb_ob (nd i : Nat) (k h l : Int32) : Prop :=
  (∃ a : Nat, a < nd ∧ h = nI a) ∧ ((k = 1 ∧ l = -1) ∨ (k = 2 ∧ ∃ b : Nat, 1 ≤ b ∧ b < nd ∧ l = nI b) ∨ (k = 3 ∧ ∃ t : Nat, t < i ∧ l = nI t))
def mb_H (n nd c : Nat) (kd hm lk sl : Nat → Int32) : Prop :=
  c ≤ n ∧ n ≤ 32 ∧ 1 ≤ nd ∧ nd ≤ 4 ∧ (∀ i, i < c → mb_ob nd i (kd i) (hm i) (lk i)) ∧ (∀ j, j < c * 2 → mb_ref c (sl j))
def mb_E (c : Nat) (kd hm lk : Nat → Int32) (c' : Nat) (kd' hm' lk' : Nat → Int32) : Prop :=
  c ≤ c' ∧ ∀ i, i < c → kd' i = kd i ∧ hm' i = hm i ∧ lk' i = lk i
def mb_ev (sl : Nat → Int32) : Nat → Int32 := fun i => sl (i * 2)
def mb_od (sl : Nat → Int32) : Nat → Int32 := fun i => sl (i * 2 + 1)
theorem mb_ref_up {c c' : Nat} {r : Int32} (h : mb_ref c r) (hc : c ≤ c') : mb_ref c' r := by
  rcases h with h | ⟨j, hj, e⟩
  · exact Or.inl h
  · exact Or.inr ⟨j, by omega, e⟩
theorem mb_E_rf {c : Nat} {kd hm lk : Nat → Int32} : mb_E c kd hm lk c kd hm lk := ⟨Nat.le_refl _, fun _ _ => ⟨rfl, rfl, rfl⟩⟩
theorem mb_E_tr {c : Nat} {kd hm lk : Nat → Int32} {c' : Nat} {kd' hm' lk' : Nat → Int32} {c2 : Nat} {kd2 hm2 lk2 : Nat → Int32}
    (a : mb_E c kd hm lk c' kd' hm' lk') (b : mb_E c' kd' hm' lk' c2 kd2 hm2 lk2) : mb_E c kd hm lk c2 kd2 hm2 lk2 := by
  refine ⟨Nat.le_trans a.1 b.1, fun i hi => ?_⟩
  obtain ⟨a1, a2, a3⟩ := a.2 i hi
  obtain ⟨b1, b2, b3⟩ := b.2 i (Nat.lt_of_lt_of_le hi a.1)
  exact ⟨b1.trans a1, b2.trans a2, b3.trans a3⟩
theorem mb_mk {n nd c : Nat} {kd hm lk sl : Nat → Int32} (H : mb_H n nd c kd hm lk sl) (hc : c < n) {k h l : Int32} (ho : mb_ob nd c k h l) :
    mb_H n nd (c + 1) (upd kd c k) (upd hm c h) (upd lk c l) (upd (upd sl (c * 2) (-1)) (c * 2 + 1) (-1)) := by
  obtain ⟨h1, h2, h3, h4, h5, h6⟩ := H
  refine ⟨hc, h2, h3, h4, ?_, ?_⟩
  · intro i hi
    by_cases e : i = c
    · rw [e, pk_us, pk_us, pk_us]; exact ho
    · rw [pk_un e, pk_un e, pk_un e]; exact h5 i (by omega)
  · intro j hj
    by_cases e : j = c * 2 + 1
    · rw [e, pk_us]; exact Or.inl rfl
    · rw [pk_un e]
      by_cases e' : j = c * 2
      · rw [e', pk_us]; exact Or.inl rfl
      · rw [pk_un e']; exact mb_ref_up (h6 j (by omega)) (by omega)
theorem mb_mkE {c : Nat} {kd hm lk : Nat → Int32} {k h l : Int32} : mb_E c kd hm lk (c + 1) (upd kd c k) (upd hm c h) (upd lk c l) :=
  ⟨Nat.le_succ _, fun i hi => ⟨pk_un (by omega), pk_un (by omega), pk_un (by omega)⟩⟩
theorem mb_set {n nd c : Nat} {kd hm lk sl : Nat → Int32} (H : mb_H n nd c kd hm lk sl) (j : Nat) {v : Int32} (hv : mb_ref c v) : mb_H n nd c kd hm lk (upd sl j v) := by
  obtain ⟨h1, h2, h3, h4, h5, h6⟩ := H
  refine ⟨h1, h2, h3, h4, h5, fun i hi => ?_⟩
  by_cases e : i = j
  · rw [e, pk_us]; exact hv
  · rw [pk_un e]; exact h6 i hi
theorem mb_nd {n nd c : Nat} {kd hm lk sl : Nat → Int32} (H : mb_H n nd c kd hm lk sl) (hd : nd < 4) : mb_H n (nd + 1) c kd hm lk sl := by
  obtain ⟨h1, h2, h3, h4, h5, h6⟩ := H
  refine ⟨h1, h2, by omega, by omega, fun i hi => ?_, h6⟩
  obtain ⟨⟨a, ha, ea⟩, hk⟩ := h5 i hi
  refine ⟨⟨a, by omega, ea⟩, ?_⟩
  rcases hk with hk | ⟨hk, b, b1, b2, eb⟩ | hk
  · exact Or.inl hk
  · exact Or.inr (Or.inl ⟨hk, b, b1, by omega, eb⟩)
  · exact Or.inr (Or.inr hk)
theorem mb_ev_e {sl : Nat → Int32} {c : Nat} {v : Int32} : mb_ev (upd sl (c * 2) v) = upd (mb_ev sl) c v := by
  funext i
  by_cases e : i = c
  · rw [e, pk_us]; exact pk_us
  · rw [pk_un e]; exact pk_un (by omega)
theorem mb_ev_o {sl : Nat → Int32} {c : Nat} {v : Int32} : mb_ev (upd sl (c * 2 + 1) v) = mb_ev sl := by
  funext i
  exact pk_un (by omega)
theorem mb_od_o {sl : Nat → Int32} {c : Nat} {v : Int32} : mb_od (upd sl (c * 2 + 1) v) = upd (mb_od sl) c v := by
  funext i
  by_cases e : i = c
  · rw [e, pk_us]; exact pk_us
  · rw [pk_un e]; exact pk_un (by omega)
theorem mb_od_e {sl : Nat → Int32} {c : Nat} {v : Int32} : mb_od (upd sl (c * 2) v) = mb_od sl := by
  funext i
  exact pk_un (by omega)
/-- the first index below c at which P holds, or none -/
theorem mb_first (P : Nat → Prop) : ∀ c : Nat, (∃ f, f < c ∧ P f ∧ ∀ j, j < f → ¬ P j) ∨ (∀ j, j < c → ¬ P j) := by
  intro c
  induction c with
  | zero => exact Or.inr (fun j hj => absurd hj (by omega))
  | succ c ih =>
    rcases ih with ⟨f, hf, hp, hm⟩ | h
    · exact Or.inl ⟨f, by omega, hp, hm⟩
    · rcases Classical.em (P c) with hp | hp
      · exact Or.inl ⟨c, by omega, hp, h⟩
      · refine Or.inr (fun j hj => ?_)
        by_cases e : j = c
        · rw [e]; exact hp
        · exact h j (by omega)
/-- the membrane between two domains bears the larger id -/
def mb_mx (a b : Nat) : Nat := if b < a then a else b
theorem mb_mx_lt {a b d : Nat} (ha : a < d) (hb : b < d) : mb_mx a b < d := by unfold mb_mx; split <;> assumption
theorem mb_upd_id {f : Nat → Int32} {k : Nat} {v : Int32} (h : f k = v) : upd f k v = f := by
  funext i
  by_cases e : i = k
  · rw [e, pk_us, h]
  · exact pk_un e
theorem mb_n1 : ∀ {j : Nat}, j < 2 ^ 31 → ¬ nI j = -1 := by
  intro j hj e
  have h := nI_pos hj
  rw [e] at h
  exact h (by decide)
/-! the rest of the state: domains and programs -/
def mb_P (nd : Nat) (par : Nat → Int32) : Prop := par 0 = -1 ∧ ∀ i, 1 ≤ i → i < nd → ∃ j : Nat, j < i ∧ par i = nI j
def mb_F (nd : Nat) (rev st pcs regs plen : Nat → Int32) : Prop :=
  ∀ i, nd ≤ i → i < 4 → rev i = 0 ∧ st i = 0 ∧ pcs i = 0 ∧ plen i = 0 ∧ ∀ r, r < 4 → regs (i * 4 + r) = -1
def mb_R (c : Nat) (regs : Nat → Int32) : Prop := ∀ j, j < 16 → mb_ref c (regs j)
def mb_G (pcs plen pop px py : Nat → Int32) : Prop :=
  ∀ d, d < 4 → ∃ l q : Nat, l ≤ 32 ∧ q ≤ l ∧ plen d = nI l ∧ pcs d = nI q ∧ ∀ k, k < l → ∃ o x y : Nat, o < 8 ∧ x < 4 ∧ y < 4 ∧ pop (d * 32 + k) = nI o ∧ px (d * 32 + k) = nI x ∧ py (d * 32 + k) = nI y
def mb_I (n p nd c : Nat) (par rev st pcs regs plen pop px py kd hm lk sl : Nat → Int32) : Prop :=
  mb_H n nd c kd hm lk sl ∧ 8 ≤ n ∧ 8 ≤ p ∧ p ≤ 32 ∧ mb_P nd par ∧ mb_F nd rev st pcs regs plen ∧ mb_R c regs ∧ mb_G pcs plen pop px py
theorem mb_R_up {c c' : Nat} {regs : Nat → Int32} (h : mb_R c regs) (hc : c ≤ c') : mb_R c' regs := fun j hj => mb_ref_up (h j hj) hc
theorem mb_R_set {c : Nat} {regs : Nat → Int32} (h : mb_R c regs) (i : Nat) {v : Int32} (hv : mb_ref c v) : mb_R c (upd regs i v) := by
  intro j hj
  by_cases e : j = i
  · rw [e, pk_us]; exact hv
  · rw [pk_un e]; exact h j hj
theorem mb_F_reg {nd : Nat} {rev st pcs regs plen : Nat → Int32} (h : mb_F nd rev st pcs regs plen) {d r : Nat} (hd : d < nd) (hr : r < 4) (v : Int32) : mb_F nd rev st pcs (upd regs (d * 4 + r) v) plen := by
  intro i h1 h2
  obtain ⟨a, b, e, f, g⟩ := h i h1 h2
  refine ⟨a, b, e, f, fun r' hr' => ?_⟩
  rw [pk_un (by omega)]; exact g r' hr'
theorem mb_F_rev {nd : Nat} {rev st pcs regs plen : Nat → Int32} (h : mb_F nd rev st pcs regs plen) {m : Nat} (hm : m < nd) (v : Int32) : mb_F nd (upd rev m v) st pcs regs plen := by
  intro i h1 h2
  obtain ⟨a, b⟩ := h i h1 h2
  refine ⟨?_, b⟩
  rw [pk_un (by omega)]; exact a
theorem mb_F_st {nd : Nat} {rev st pcs regs plen : Nat → Int32} (h : mb_F nd rev st pcs regs plen) {m : Nat} (hm : m < nd) (v : Int32) : mb_F nd rev (upd st m v) pcs regs plen := by
  intro i h1 h2
  obtain ⟨a, b, e⟩ := h i h1 h2
  refine ⟨a, ?_, e⟩
  rw [pk_un (by omega)]; exact b
theorem mb_F_pc {nd : Nat} {rev st pcs regs plen : Nat → Int32} (h : mb_F nd rev st pcs regs plen) {m : Nat} (hm : m < nd) (v : Int32) : mb_F nd rev st (upd pcs m v) regs plen := by
  intro i h1 h2
  obtain ⟨a, b, e, f⟩ := h i h1 h2
  refine ⟨a, b, ?_, f⟩
  rw [pk_un (by omega)]; exact e
theorem mb_F_len {nd : Nat} {rev st pcs regs plen : Nat → Int32} (h : mb_F nd rev st pcs regs plen) {m : Nat} (hm : m < nd) (v : Int32) : mb_F nd rev st pcs regs (upd plen m v) := by
  intro i h1 h2
  obtain ⟨a, b, e, f, g⟩ := h i h1 h2
  refine ⟨a, b, e, ?_, g⟩
  rw [pk_un (by omega)]; exact f
theorem mb_F_nd {nd : Nat} {rev st pcs regs plen : Nat → Int32} (h : mb_F nd rev st pcs regs plen) : mb_F (nd + 1) rev st pcs regs plen := fun i h1 h2 => h i (by omega) h2
theorem mb_P_nd {nd : Nat} {par : Nat → Int32} (h : mb_P nd par) (h0 : 1 ≤ nd) {j : Nat} (hj : j < nd) : mb_P (nd + 1) (upd par nd (nI j)) := by
  refine ⟨?_, fun i h1 h2 => ?_⟩
  · rw [pk_un (by omega)]; exact h.1
  · by_cases e : i = nd
    · rw [e, pk_us]; exact ⟨j, hj, rfl⟩
    · rw [pk_un e]; exact h.2 i h1 (by omega)
theorem mb_G_pc {pcs plen pop px py : Nat → Int32} (h : mb_G pcs plen pop px py) {d l q : Nat} (hd : d < 4) (hl : plen d = nI l) (hl2 : l ≤ 32) (hq : q ≤ l) : mb_G (upd pcs d (nI q)) plen pop px py := by
  intro i hi
  obtain ⟨l', q', a, b, e, f, g⟩ := h i hi
  by_cases z : i = d
  · subst z
    have : l' = l := (nI_eq (by omega) (by omega)).mp (e.symm.trans hl)
    subst this
    exact ⟨l', q, a, hq, e, pk_us, g⟩
  · exact ⟨l', q', a, b, e, by rw [pk_un z]; exact f, g⟩
theorem mb_G_emit {pcs plen pop px py : Nat → Int32} (h : mb_G pcs plen pop px py) {d l o x y : Nat} (hd : d < 4) (hl : plen d = nI l) (hl2 : l < 32) (ho : o < 8) (hx : x < 4) (hy : y < 4) :
    mb_G pcs (upd plen d (nI (l + 1))) (upd pop (d * 32 + l) (nI o)) (upd px (d * 32 + l) (nI x)) (upd py (d * 32 + l) (nI y)) := by
  intro i hi
  obtain ⟨l', q', a, b, e, f, g⟩ := h i hi
  by_cases z : i = d
  · subst z
    have : l' = l := (nI_eq (by omega) (by omega)).mp (e.symm.trans hl)
    subst this
    refine ⟨l' + 1, q', by omega, by omega, pk_us, f, fun k hk => ?_⟩
    by_cases zk : k = l'
    · subst zk
      exact ⟨o, x, y, ho, hx, hy, pk_us, pk_us, pk_us⟩
    · rw [pk_un (by omega), pk_un (by omega), pk_un (by omega)]
      exact g k (by omega)
  · refine ⟨l', q', a, b, by rw [pk_un z]; exact e, f, fun k hk => ?_⟩
    rw [pk_un (by omega), pk_un (by omega), pk_un (by omega)]
    exact g k hk
/-! the way of an invocation: X keeps path, Y keeps hx and he -/
def mb_W (nd k : Nat) (g : Nat → Nat) (path hx he : Nat → Int32) : Prop :=
  (∀ i, i ≤ k → g i < nd ∧ path i = nI (g i)) ∧ (∀ i, i < k → hx i = nI (g i) ∧ he i = nI (g (i + 1)))
theorem mb_W_0 {nd d : Nat} {path hx he : Nat → Int32} (hd : d < nd) : mb_W nd 0 (fun _ => d) (upd path 0 (nI d)) hx he := by
  refine ⟨fun i hi => ⟨hd, ?_⟩, fun i hi => absurd hi (by omega)⟩
  have e : i = 0 := by omega
  rw [e, pk_us]
theorem mb_W_s {nd k : Nat} {g : Nat → Nat} {path hx he : Nat → Int32} (h : mb_W nd k g path hx he) {e : Nat} (he' : e < nd) :
    mb_W nd (k + 1) (fun i => if i = k + 1 then e else g i) (upd path (k + 1) (nI e)) (upd hx k (nI (g k))) (upd he k (nI e)) := by
  refine ⟨fun i hi => ?_, fun i hi => ?_⟩
  · by_cases z : i = k + 1
    · subst z
      refine ⟨?_, ?_⟩
      · simp only [if_true]; exact he'
      · rw [pk_us]; simp only [if_true]
    · refine ⟨?_, ?_⟩
      · simp only [if_neg z]; exact (h.1 i (by omega)).1
      · rw [pk_un z]; simp only [if_neg z]; exact (h.1 i (by omega)).2
  · have z1 : ¬ i = k + 1 := by omega
    by_cases z : i = k
    · subst z
      refine ⟨?_, ?_⟩
      · rw [pk_us]; simp only [if_neg z1]
      · rw [pk_us]; simp only [if_true]
    · have z2 : ¬ i + 1 = k + 1 := by omega
      refine ⟨?_, ?_⟩
      · rw [pk_un z]; simp only [if_neg z1]; exact (h.2 i (by omega)).1
      · rw [pk_un z]; simp only [if_neg z2]; exact (h.2 i (by omega)).2
theorem mb_W_dn {nd k : Nat} {g : Nat → Nat} {path hx he : Nat → Int32} (h : mb_W nd (k + 1) g path hx he) : mb_W nd k g path hx he :=
  ⟨fun i hi => h.1 i (by omega), fun i hi => h.2 i (by omega)⟩
/-- an answer on both sides: the same reference, or a fault with its code -/
def mb_A (c : Nat) (rX rY flt : Int32) : Prop := (flt = 0 ∧ rY = rX ∧ mb_ref c rX) ∨ (∃ e : Nat, 1 ≤ e ∧ e ≤ 3 ∧ flt = nI e ∧ rX = -1 - nI e)
/-- rev keeps the cells of domains that don't exist yet -/
def mb_V (nd : Nat) (rev rev' : Nat → Int32) : Prop := ∀ i, nd ≤ i → rev' i = rev i
theorem mb_F_V {nd : Nat} {rev rev' st pcs regs plen : Nat → Int32} (h : mb_F nd rev st pcs regs plen) (v : mb_V nd rev rev') : mb_F nd rev' st pcs regs plen := by
  intro i h1 h2
  obtain ⟨a, b⟩ := h i h1 h2
  exact ⟨(v i h1).trans a, b⟩
/-- a forwarder's target, and what any object is -/
theorem mb_H_ob {n nd c : Nat} {kd hm lk sl : Nat → Int32} (H : mb_H n nd c kd hm lk sl) {i : Nat} (hi : i < c) : mb_ob nd i (kd i) (hm i) (lk i) := H.2.2.2.2.1 i hi
theorem mb_fw {nd i : Nat} {k h l : Int32} (o : mb_ob nd i k h l) (e : k = 3) : ∃ t : Nat, t < i ∧ l = nI t := by
  rcases o.2 with ⟨q, -⟩ | ⟨q, -⟩ | ⟨-, t, ht⟩
  · rw [e] at q; exact absurd q (by decide)
  · rw [e] at q; exact absurd q (by decide)
  · exact ⟨t, ht⟩
end
