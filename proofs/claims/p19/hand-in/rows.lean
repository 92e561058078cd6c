section
section
/-! the pure side: references of a domain, objects, the heap's invariant -/
def mb_rf (c : Nat) (hm : Nat → Int32) (h r : Int32) : Prop := r = -1 ∨ ∃ j : Nat, j < c ∧ r = nI j ∧ hm j = h
def mb_adj (par : Nat → Int32) (a e : Nat) : Prop := par a = nI e ∨ par e = nI a
def mb_ob (par : Nat → Int32) (nd i : Nat) (kd hm lk : Nat → Int32) : Prop :=
  ∃ a : Nat, a < nd ∧ hm i = nI a ∧ ((kd i = 1 ∧ lk i = -1) ∨ (kd i = 2 ∧ ∃ b : Nat, 1 ≤ b ∧ b < nd ∧ lk i = nI b) ∨
    (kd i = 3 ∧ ∃ t e : Nat, t < i ∧ lk i = nI t ∧ e < nd ∧ hm t = nI e ∧ mb_adj par a e ∧ ¬ (kd t = 3 ∧ hm (lk t).toNatClampNeg = nI a)))
def mb_H (n nd c : Nat) (par kd hm lk sl : Nat → Int32) : Prop :=
  c ≤ n ∧ n ≤ 32 ∧ 1 ≤ nd ∧ nd ≤ 4 ∧ (∀ i, i < c → mb_ob par nd i kd hm lk) ∧
  (∀ i, i < c → kd i = 1 → mb_rf c hm (hm i) (sl (i * 2)) ∧ mb_rf c hm (hm i) (sl (i * 2 + 1))) ∧
  (∀ i g, i < g → g < c → kd i = 3 → kd g = 3 → hm g = hm i → ¬ lk g = lk i)
def mb_E (c : Nat) (kd hm lk : Nat → Int32) (c' : Nat) (kd' hm' lk' : Nat → Int32) : Prop :=
  c ≤ c' ∧ ∀ i, i < c → kd' i = kd i ∧ hm' i = hm i ∧ lk' i = lk i
/-- objects homed outside S keep hits and slots -/
def mb_Fr (S : Int32 → Prop) (c : Nat) (hm ht sl ht' sl' : Nat → Int32) : Prop :=
  ∀ i, i < c → ¬ S (hm i) → ht' i = ht i ∧ sl' (i * 2) = sl (i * 2) ∧ sl' (i * 2 + 1) = sl (i * 2 + 1)
/-- domains outside S keep their registers -/
def mb_Fg (S : Int32 → Prop) (nd : Nat) (regs regs' : Nat → Int32) : Prop := ∀ e, e < nd → ¬ S (nI e) → ∀ r, r < 4 → regs' (e * 4 + r) = regs (e * 4 + r)
def mb_mx (a b : Nat) : Nat := if b < a then a else b
theorem mb_mx_lt {a b d : Nat} (ha : a < d) (hb : b < d) : mb_mx a b < d := by unfold mb_mx; split <;> assumption
/-- no way out of S but over a revoked membrane -/
def mb_cl (par rev : Nat → Int32) (nd : Nat) (S : Int32 → Prop) : Prop := ∀ x y, x < nd → y < nd → mb_adj par x y → S (nI x) → ¬ rev (mb_mx x y) = 0 ∨ S (nI y)
def mb_rm (rev rev' : Nat → Int32) : Prop := ∀ i, ¬ rev i = 0 → ¬ rev' i = 0
def mb_V (nd : Nat) (rev rev' : Nat → Int32) : Prop := mb_rm rev rev' ∧ ∀ i, nd ≤ i → rev' i = rev i
theorem mb_V_rf {nd : Nat} {rev : Nat → Int32} : mb_V nd rev rev := ⟨fun _ h => h, fun _ _ => rfl⟩
theorem mb_V_tr {nd : Nat} {rev rev' rev2 : Nat → Int32} (a : mb_V nd rev rev') (b : mb_V nd rev' rev2) : mb_V nd rev rev2 := ⟨fun i h => b.1 i (a.1 i h), fun i h => (b.2 i h).trans (a.2 i h)⟩
theorem mb_cl_up {par rev rev' : Nat → Int32} {nd : Nat} {S : Int32 → Prop} (h : mb_cl par rev nd S) (m : mb_rm rev rev') : mb_cl par rev' nd S :=
  fun x y hx hy a s => (h x y hx hy a s).imp (m _) id
theorem mb_adj_s {par : Nat → Int32} {a e : Nat} (h : mb_adj par a e) : mb_adj par e a := h.symm
theorem mb_rf_up {c c' : Nat} {kd hm lk kd' hm' lk' : Nat → Int32} {h r : Int32} (a : mb_rf c hm h r) (e : mb_E c kd hm lk c' kd' hm' lk') : mb_rf c' hm' h r := by
  rcases a with a | ⟨j, hj, er, eh⟩
  · exact Or.inl a
  · exact Or.inr ⟨j, Nat.lt_of_lt_of_le hj e.1, er, ((e.2 j hj).2.1).trans eh⟩
theorem mb_E_rf {c : Nat} {kd hm lk : Nat → Int32} : mb_E c kd hm lk c kd hm lk := ⟨Nat.le_refl _, fun _ _ => ⟨rfl, rfl, rfl⟩⟩
theorem mb_E_tr {c : Nat} {kd hm lk : Nat → Int32} {c' : Nat} {kd' hm' lk' : Nat → Int32} {c2 : Nat} {kd2 hm2 lk2 : Nat → Int32}
    (a : mb_E c kd hm lk c' kd' hm' lk') (b : mb_E c' kd' hm' lk' c2 kd2 hm2 lk2) : mb_E c kd hm lk c2 kd2 hm2 lk2 := by
  refine ⟨Nat.le_trans a.1 b.1, fun i hi => ?_⟩
  obtain ⟨a1, a2, a3⟩ := a.2 i hi
  obtain ⟨b1, b2, b3⟩ := b.2 i (Nat.lt_of_lt_of_le hi a.1)
  exact ⟨b1.trans a1, b2.trans a2, b3.trans a3⟩
theorem mb_Fr_rf {S : Int32 → Prop} {c : Nat} {hm ht sl : Nat → Int32} : mb_Fr S c hm ht sl ht sl := fun _ _ _ => ⟨rfl, rfl, rfl⟩
theorem mb_Fr_tr {S : Int32 → Prop} {c c1 : Nat} {kd hm lk kd1 hm1 lk1 ht sl ht1 sl1 ht2 sl2 : Nat → Int32} (a : mb_Fr S c hm ht sl ht1 sl1) (e : mb_E c kd hm lk c1 kd1 hm1 lk1) (b : mb_Fr S c1 hm1 ht1 sl1 ht2 sl2) : mb_Fr S c hm ht sl ht2 sl2 := by
  intro i hi s
  obtain ⟨a1, a2, a3⟩ := a i hi s
  obtain ⟨b1, b2, b3⟩ := b i (Nat.lt_of_lt_of_le hi e.1) (by rw [(e.2 i hi).2.1]; exact s)
  exact ⟨b1.trans a1, b2.trans a2, b3.trans a3⟩
theorem mb_Fr_hit {S : Int32 → Prop} {c cur : Nat} {hm ht sl : Nat → Int32} {v : Int32} (s : S (hm cur)) : mb_Fr S c hm ht sl (upd ht cur v) sl := by
  intro i hi z
  have e : i ≠ cur := fun e => z (by rw [e]; exact s)
  exact ⟨pk_un e, rfl, rfl⟩
theorem mb_mkE {c : Nat} {kd hm lk : Nat → Int32} {k h l : Int32} : mb_E c kd hm lk (c + 1) (upd kd c k) (upd hm c h) (upd lk c l) :=
  ⟨Nat.le_succ _, fun i hi => ⟨pk_un (by omega), pk_un (by omega), pk_un (by omega)⟩⟩
theorem mb_mkF {S : Int32 → Prop} {c : Nat} {hm ht sl : Nat → Int32} : mb_Fr S c hm ht sl (upd ht c 0) (upd (upd sl (c * 2) (-1)) (c * 2 + 1) (-1)) := by
  intro i hi _
  refine ⟨pk_un (by omega), ?_, ?_⟩
  · rw [pk_un (by omega), pk_un (by omega)]
  · rw [pk_un (by omega), pk_un (by omega)]
/-- an old object stays an object when one is made -/
theorem mb_ob_mk {par : Nat → Int32} {nd c i : Nat} {kd hm lk : Nat → Int32} {k h l : Int32} (all : ∀ j, j < c → mb_ob par nd j kd hm lk) (hc : c < 32) (hi : i < c) :
    mb_ob par nd i (upd kd c k) (upd hm c h) (upd lk c l) := by
  obtain ⟨a, ha, ea, hk⟩ := all i hi
  refine ⟨a, ha, by rw [pk_un (by omega)]; exact ea, ?_⟩
  rw [pk_un (show i ≠ c by omega), pk_un (show i ≠ c by omega)]
  rcases hk with hk | hk | ⟨hk, t, e, ht, et, he, ee, had, hno⟩
  · exact Or.inl hk
  · exact Or.inr (Or.inl hk)
  · refine Or.inr (Or.inr ⟨hk, t, e, ht, et, he, by rw [pk_un (by omega)]; exact ee, had, ?_⟩)
    rw [pk_un (show t ≠ c by omega), pk_un (show t ≠ c by omega)]
    rintro ⟨k3, q⟩
    obtain ⟨a2, -, -, hk2⟩ := all t (by omega)
    rcases hk2 with ⟨z, -⟩ | ⟨z, -⟩ | ⟨-, t2, e2, ht2, et2, -⟩
    · rw [k3] at z; exact absurd z (by decide)
    · rw [k3] at z; exact absurd z (by decide)
    · rw [et2, nI_clamp (by omega), pk_un (by omega)] at q
      exact hno ⟨k3, by rw [et2, nI_clamp (by omega)]; exact q⟩
theorem mb_mk {n nd c : Nat} {par kd hm lk sl : Nat → Int32} (H : mb_H n nd c par kd hm lk sl) (hc : c < n) {k h l : Int32} (ho : mb_ob par nd c (upd kd c k) (upd hm c h) (upd lk c l))
    (hu : k = 3 → ∀ i, i < c → ¬ (kd i = 3 ∧ hm i = h ∧ lk i = l)) :
    mb_H n nd (c + 1) par (upd kd c k) (upd hm c h) (upd lk c l) (upd (upd sl (c * 2) (-1)) (c * 2 + 1) (-1)) := by
  obtain ⟨h1, h2, h3, h4, h5, h6, h7⟩ := H
  refine ⟨hc, h2, h3, h4, ?_, ?_, ?_⟩
  · intro i hi
    by_cases e : i = c
    · rw [e]; exact ho
    · exact mb_ob_mk h5 (by omega) (by omega)
  · intro i hi k1
    by_cases e : i = c
    · subst e
      refine ⟨Or.inl ?_, Or.inl pk_us⟩
      rw [pk_un (by omega), pk_us]
    · rw [pk_un e] at k1
      obtain ⟨s0, s1⟩ := h6 i (by omega) k1
      rw [pk_un e, pk_un (show i * 2 ≠ c * 2 + 1 by omega), pk_un (show i * 2 ≠ c * 2 by omega), pk_un (show i * 2 + 1 ≠ c * 2 + 1 by omega), pk_un (show i * 2 + 1 ≠ c * 2 by omega)]
      exact ⟨mb_rf_up s0 (mb_mkE (kd := kd) (lk := lk) (k := k) (l := l)), mb_rf_up s1 (mb_mkE (kd := kd) (lk := lk) (k := k) (l := l))⟩
  · intro i g hig hg ki kg eh
    have ei : i ≠ c := by omega
    rw [pk_un ei] at ki
    by_cases e : g = c
    · subst e
      rw [pk_us] at kg
      rw [pk_us, pk_un ei] at eh
      rw [pk_us, pk_un ei]
      exact fun el => hu kg i hig ⟨ki, eh.symm, el.symm⟩
    · rw [pk_un e] at kg
      rw [pk_un e, pk_un ei] at eh
      rw [pk_un e, pk_un ei]
      exact h7 i g hig (by omega) ki kg eh
theorem mb_set {n nd c : Nat} {par kd hm lk sl : Nat → Int32} (H : mb_H n nd c par kd hm lk sl) {j i q : Nat} (hq : q = 0 ∨ q = 1) (hj : j = i * 2 + q) {v : Int32} (hv : mb_rf c hm (hm i) v) : mb_H n nd c par kd hm lk (upd sl j v) := by
  obtain ⟨h1, h2, h3, h4, h5, h6, h7⟩ := H
  refine ⟨h1, h2, h3, h4, h5, fun i' hi k1 => ?_, h7⟩
  obtain ⟨s0, s1⟩ := h6 i' hi k1
  refine ⟨?_, ?_⟩
  · by_cases e : i' * 2 = j
    · have z : i' = i := by omega
      rw [e, pk_us, z]; exact hv
    · rw [pk_un e]; exact s0
  · by_cases e : i' * 2 + 1 = j
    · have z : i' = i := by omega
      rw [e, pk_us, z]; exact hv
    · rw [pk_un e]; exact s1
/-- a new domain: the parents of old domains stay -/
theorem mb_nd {n nd c : Nat} {par kd hm lk sl : Nat → Int32} (H : mb_H n nd c par kd hm lk sl) (hd : nd < 4) (v : Int32) : mb_H n (nd + 1) c (upd par nd v) kd hm lk sl := by
  obtain ⟨h1, h2, h3, h4, h5, h6, h7⟩ := H
  refine ⟨h1, h2, by omega, by omega, fun i hi => ?_, h6, h7⟩
  obtain ⟨a, ha, ea, hk⟩ := h5 i hi
  refine ⟨a, by omega, ea, ?_⟩
  rcases hk with hk | ⟨hk, b, b1, b2, eb⟩ | ⟨hk, t, e, ht, et, he, ee, had, hno⟩
  · exact Or.inl hk
  · exact Or.inr (Or.inl ⟨hk, b, b1, by omega, eb⟩)
  · refine Or.inr (Or.inr ⟨hk, t, e, ht, et, by omega, ee, ?_, hno⟩)
    unfold mb_adj
    rw [pk_un (show a ≠ nd by omega), pk_un (show e ≠ nd by omega)]
    exact had
theorem mb_first (P : Nat → Prop) : ∀ c : Nat, (∃ f, f < c ∧ P f ∧ ∀ j, j < f → ¬ P j) ∨ (∀ j, j < c → ¬ P j) := by
  intro c
  induction c with
  | zero => exact Or.inr (fun j hj => absurd hj (by omega))
  | succ c ih =>
    rcases ih with ⟨f, hf, hp, hm⟩ | h
    · exact Or.inl ⟨f, by omega, hp, hm⟩
    · rcases Classical.em (P c) with hp | hp
      · exact Or.inl ⟨c, by omega, hp, h⟩
      · refine Or.inr (fun j hj => ?_)
        by_cases e : j = c
        · rw [e]; exact hp
        · exact h j (by omega)
theorem mb_n1 : ∀ {j : Nat}, j < 2 ^ 31 → ¬ nI j = -1 := by
  intro j hj e
  have h := nI_pos hj
  rw [e] at h
  exact h (by decide)
/-! the rest of the state -/
def mb_P (nd : Nat) (par : Nat → Int32) : Prop := par 0 = -1 ∧ ∀ i, 1 ≤ i → i < nd → ∃ j : Nat, j < i ∧ par i = nI j
def mb_R (nd c : Nat) (hm regs : Nat → Int32) : Prop := (∀ d r, d < nd → r < 4 → mb_rf c hm (nI d) (regs (d * 4 + r))) ∧ (∀ d r, nd ≤ d → d < 4 → r < 4 → regs (d * 4 + r) = -1)
def mb_G (pcs plen pop px py : Nat → Int32) : Prop :=
  ∀ d, d < 4 → ∃ l q : Nat, l ≤ 32 ∧ q ≤ l ∧ plen d = nI l ∧ pcs d = nI q ∧ ∀ k, k < l → ∃ o x y : Nat, o < 8 ∧ x < 4 ∧ y < 4 ∧ pop (d * 32 + k) = nI o ∧ px (d * 32 + k) = nI x ∧ py (d * 32 + k) = nI y
def mb_I (n p nd c : Nat) (par pcs regs plen pop px py kd hm lk sl : Nat → Int32) : Prop :=
  mb_H n nd c par kd hm lk sl ∧ 8 ≤ n ∧ 8 ≤ p ∧ p ≤ 32 ∧ mb_P nd par ∧ mb_R nd c hm regs ∧ mb_G pcs plen pop px py
theorem mb_R_up {nd c c' : Nat} {kd hm lk kd' hm' lk' regs : Nat → Int32} (h : mb_R nd c hm regs) (e : mb_E c kd hm lk c' kd' hm' lk') : mb_R nd c' hm' regs :=
  ⟨fun d r hd hr => mb_rf_up (h.1 d r hd hr) e, h.2⟩
theorem mb_R_set {nd c : Nat} {hm regs : Nat → Int32} (h : mb_R nd c hm regs) {d x : Nat} (hd : d < nd) (hx : x < 4) {v : Int32} (hv : mb_rf c hm (nI d) v) : mb_R nd c hm (upd regs (d * 4 + x) v) := by
  refine ⟨fun d' r hd' hr => ?_, fun d' r a b hr => ?_⟩
  · by_cases e : d' * 4 + r = d * 4 + x
    · have z : d' = d := by omega
      rw [e, pk_us, z]; exact hv
    · rw [pk_un e]; exact h.1 d' r hd' hr
  · rw [pk_un (by omega)]; exact h.2 d' r a b hr
theorem mb_R_nd {nd c : Nat} {hm regs : Nat → Int32} (h : mb_R nd c hm regs) (h4 : nd < 4) : mb_R (nd + 1) c hm regs := by
  refine ⟨fun d r hd hr => ?_, fun d r a b hr => h.2 d r (by omega) b hr⟩
  by_cases e : d = nd
  · exact Or.inl (h.2 d r (by omega) (by omega) hr)
  · exact h.1 d r (by omega) hr
theorem mb_Fg_rf {S : Int32 → Prop} {nd : Nat} {regs : Nat → Int32} : mb_Fg S nd regs regs := fun _ _ _ _ _ => rfl
theorem mb_Fg_set {S : Int32 → Prop} {nd d x : Nat} {regs : Nat → Int32} {v : Int32} (hx : x < 4) (s : S (nI d)) : mb_Fg S nd regs (upd regs (d * 4 + x) v) := by
  intro e he z r hr
  have n1 : e ≠ d := fun q => z (by rw [q]; exact s)
  exact pk_un (by omega)
theorem mb_Fg_tr {S : Int32 → Prop} {nd : Nat} {regs regs1 regs2 : Nat → Int32} (a : mb_Fg S nd regs regs1) (b : mb_Fg S nd regs1 regs2) : mb_Fg S nd regs regs2 :=
  fun e he z r hr => (b e he z r hr).trans (a e he z r hr)
theorem mb_P_nd {nd : Nat} {par : Nat → Int32} (h : mb_P nd par) (h0 : 1 ≤ nd) {j : Nat} (hj : j < nd) : mb_P (nd + 1) (upd par nd (nI j)) := by
  refine ⟨?_, fun i h1 h2 => ?_⟩
  · rw [pk_un (by omega)]; exact h.1
  · by_cases e : i = nd
    · rw [e, pk_us]; exact ⟨j, hj, rfl⟩
    · rw [pk_un e]; exact h.2 i h1 (by omega)
theorem mb_G_pc {pcs plen pop px py : Nat → Int32} (h : mb_G pcs plen pop px py) {d l q : Nat} (hd : d < 4) (hl : plen d = nI l) (hl2 : l ≤ 32) (hq : q ≤ l) : mb_G (upd pcs d (nI q)) plen pop px py := by
  intro i hi
  obtain ⟨l', q', a, b, e, f, g⟩ := h i hi
  by_cases z : i = d
  · subst z
    have : l' = l := (nI_eq (by omega) (by omega)).mp (e.symm.trans hl)
    subst this
    exact ⟨l', q, a, hq, e, pk_us, g⟩
  · exact ⟨l', q', a, b, e, by rw [pk_un z]; exact f, g⟩
theorem mb_G_emit {pcs plen pop px py : Nat → Int32} (h : mb_G pcs plen pop px py) {d l o x y : Nat} (hd : d < 4) (hl : plen d = nI l) (hl2 : l < 32) (ho : o < 8) (hx : x < 4) (hy : y < 4) :
    mb_G pcs (upd plen d (nI (l + 1))) (upd pop (d * 32 + l) (nI o)) (upd px (d * 32 + l) (nI x)) (upd py (d * 32 + l) (nI y)) := by
  intro i hi
  obtain ⟨l', q', a, b, e, f, g⟩ := h i hi
  by_cases z : i = d
  · subst z
    have : l' = l := (nI_eq (by omega) (by omega)).mp (e.symm.trans hl)
    subst this
    refine ⟨l' + 1, q', by omega, by omega, pk_us, f, fun k hk => ?_⟩
    by_cases zk : k = l'
    · subst zk
      exact ⟨o, x, y, ho, hx, hy, pk_us, pk_us, pk_us⟩
    · rw [pk_un (by omega), pk_un (by omega), pk_un (by omega)]
      exact g k (by omega)
  · refine ⟨l', q', a, b, by rw [pk_un z]; exact e, f, fun k hk => ?_⟩
    rw [pk_un (by omega), pk_un (by omega), pk_un (by omega)]
    exact g k hk
/-! the way of an invocation -/
def mb_W (par : Nat → Int32) (nd k : Nat) (g : Nat → Nat) (path : Nat → Int32) : Prop :=
  (∀ i, i ≤ k → g i < nd ∧ path i = nI (g i)) ∧ (∀ i, i < k → mb_adj par (g i) (g (i + 1)))
theorem mb_W_0 {par : Nat → Int32} {nd d : Nat} {path : Nat → Int32} (hd : d < nd) : mb_W par nd 0 (fun _ => d) (upd path 0 (nI d)) := by
  refine ⟨fun i hi => ⟨hd, ?_⟩, fun i hi => absurd hi (by omega)⟩
  have e : i = 0 := by omega
  rw [e, pk_us]
theorem mb_W_s {par : Nat → Int32} {nd k : Nat} {g : Nat → Nat} {path : Nat → Int32} (h : mb_W par nd k g path) {e : Nat} (he' : e < nd) (ha : mb_adj par (g k) e) :
    mb_W par nd (k + 1) (fun i => if i = k + 1 then e else g i) (upd path (k + 1) (nI e)) := by
  refine ⟨fun i hi => ?_, fun i hi => ?_⟩
  · by_cases z : i = k + 1
    · subst z
      refine ⟨?_, ?_⟩
      · simp only [if_true]; exact he'
      · rw [pk_us]; simp only [if_true]
    · refine ⟨?_, ?_⟩
      · simp only [if_neg z]; exact (h.1 i (by omega)).1
      · rw [pk_un z]; simp only [if_neg z]; exact (h.1 i (by omega)).2
  · have z1 : ¬ i = k + 1 := by omega
    by_cases z : i = k
    · subst z
      simp only [if_neg z1, if_true]
      exact ha
    · have z2 : ¬ i + 1 = k + 1 := by omega
      simp only [if_neg z1, if_neg z2]
      exact h.2 i (by omega)
theorem mb_W_dn {par : Nat → Int32} {nd k : Nat} {g : Nat → Nat} {path : Nat → Int32} (h : mb_W par nd (k + 1) g path) : mb_W par nd k g path :=
  ⟨fun i hi => h.1 i (by omega), fun i hi => h.2 i (by omega)⟩
/-- an answer: a reference of the domain, or a fault -/
def mb_A (c : Nat) (hm : Nat → Int32) (h rX : Int32) : Prop := mb_rf c hm h rX ∨ (∃ e : Nat, 1 ≤ e ∧ e ≤ 3 ∧ rX = -1 - nI e)
theorem mb_H_ob {n nd c : Nat} {par kd hm lk sl : Nat → Int32} (H : mb_H n nd c par kd hm lk sl) {i : Nat} (hi : i < c) : mb_ob par nd i kd hm lk := H.2.2.2.2.1 i hi
theorem mb_fw {par : Nat → Int32} {nd i : Nat} {kd hm lk : Nat → Int32} (o : mb_ob par nd i kd hm lk) (k3 : kd i = 3) :
    ∃ a t e : Nat, a < nd ∧ hm i = nI a ∧ t < i ∧ lk i = nI t ∧ e < nd ∧ hm t = nI e ∧ mb_adj par a e ∧ ¬ (kd t = 3 ∧ hm (lk t).toNatClampNeg = nI a) := by
  obtain ⟨a, ha, ea, ⟨q, -⟩ | ⟨q, -⟩ | ⟨-, t, e, h⟩⟩ := o
  · rw [k3] at q; exact absurd q (by decide)
  · rw [k3] at q; exact absurd q (by decide)
  · exact ⟨a, t, e, ha, ea, h⟩
end
end
section
section
theorem mb_lt_t {a b : Nat} (h : a < b) (hb : b < 2 ^ 31) : (nI a < nI b) = True := eq_true (nI_lt h hb)
theorem mb_lt_f {a b : Nat} (h : b ≤ a) (hb : a < 2 ^ 31) : (nI a < nI b) = False := eq_false (nI_nlt h hb)
theorem mb_le_t {a b : Nat} (h : a ≤ b) (hb : b < 2 ^ 31) : (nI a ≤ nI b) = True := eq_true (nI_le h hb)
theorem mb_le_f {a b : Nat} (h : b < a) (hb : a < 2 ^ 31) : (nI a ≤ nI b) = False := eq_false (nI_ge h hb)
theorem mb_ne {a b : Nat} (h : a ≠ b) (ha : a < 2 ^ 31) (hb : b < 2 ^ 31) : (nI a = nI b) = False := eq_false (fun e => h ((nI_eq ha hb).mp e))
theorem mb_lt0 {a : Nat} (h : a < 2 ^ 31) : (nI a < 0) = False := eq_false (nI_pos h)
theorem mb_le0 {a : Nat} (h : a < 2 ^ 31) : (0 ≤ nI a) = True := eq_true (nI_pos' h)
theorem mb_m1 {a : Nat} (h : a < 2 ^ 31) : (nI a = -1) = False := eq_false (mb_n1 h)
theorem mb_m1l {a : Nat} (h : a < 2 ^ 31) : (-1 ≤ nI a) = True := eq_true (Int32.le_trans (by decide) (nI_pos' h))
theorem mb_m1g {a : Nat} (h : a < 2 ^ 31) : (nI a < -1) = False := eq_false (fun z => nI_pos h (Int32.lt_trans z (by decide)))
theorem mb_m1n {a : Nat} (h : a < 2 ^ 31) : (nI a = -2) = False := eq_false (fun e => nI_pos h (by rw [e]; decide))
theorem mb_x2 (a : Nat) : nI a * 2 = nI (a * 2) := pk_mul a 2
theorem mb_x4 (a : Nat) : nI a * 4 = nI (a * 4) := pk_mul a 4
theorem mb_x32 (a : Nat) : nI a * 32 = nI (a * 32) := pk_mul a 32
theorem mb_lt_4 {a : Nat} (h : a < 4) : (nI a < 4) = True := eq_true (nI_lt (b := 4) h (by decide))
theorem mb_le_4 {a : Nat} (h : a < 4) : (4 ≤ nI a) = False := eq_false (nI_ge (b := 4) h (by decide))
theorem mb_ge_4 {a : Nat} (h : 4 ≤ a) (ha : a < 2 ^ 31) : (4 ≤ nI a) = True := eq_true (nI_le (a := 4) h ha)
theorem mb_gt_4 {a : Nat} (h : 4 ≤ a) (ha : a < 2 ^ 31) : (nI a < 4) = False := eq_false (nI_nlt (b := 4) h ha)
theorem mb_le_3 {a : Nat} (h : a < 4) : (nI a ≤ 3) = True := eq_true (nI_le (b := 3) (by omega) (by decide))
theorem mb_gt_3 {a : Nat} (h : a < 4) : (3 < nI a) = False := eq_false (nI_nlt (a := 3) (by omega) (by decide))
theorem mb_le_7 {a : Nat} (h : a < 8) : (nI a ≤ 7) = True := eq_true (nI_le (b := 7) (by omega) (by decide))
theorem mb_gt_7 {a : Nat} (h : a < 8) : (7 < nI a) = False := eq_false (nI_nlt (a := 7) (by omega) (by decide))
theorem mb_lt_32 {a : Nat} (h : a < 32) : (nI a < 32) = True := eq_true (nI_lt (b := 32) h (by decide))
theorem mb_ge_32 {a : Nat} (h : a < 32) : (32 ≤ nI a) = False := eq_false (nI_ge (b := 32) h (by decide))
theorem mb_lt_128 {a : Nat} (h : a < 128) : (nI a < 128) = True := eq_true (nI_lt (b := 128) h (by decide))
theorem mb_ge_128 {a : Nat} (h : a < 128) : (128 ≤ nI a) = False := eq_false (nI_ge (b := 128) h (by decide))
theorem mb_ge_1 {a : Nat} (h : 1 ≤ a) (ha : a < 2 ^ 31) : (1 ≤ nI a) = True := eq_true (nI_le (a := 1) h ha)
theorem mb_lt_1 {a : Nat} (h : 1 ≤ a) (ha : a < 2 ^ 31) : (nI a < 1) = False := eq_false (nI_nlt (b := 1) h ha)
theorem mb_ge_1f {a : Nat} (h : a < 1) : (1 ≤ nI a) = False := eq_false (nI_ge (b := 1) h (by decide))
theorem mb_lt_1t {a : Nat} (h : a < 1) : (nI a < 1) = True := eq_true (nI_lt (b := 1) h (by decide))
/-- an index: below 0, beyond n, or within -/
theorem mb_ix (x : Int32) {n : Nat} (hn : n < 2 ^ 31) : (x < 0 ∧ ¬ 0 ≤ x) ∨ (¬ x < 0 ∧ 0 ≤ x ∧ nI n ≤ x ∧ ¬ x < nI n) ∨ ∃ j : Nat, j < n ∧ x = nI j := by
  rcases pk_ix x hn with h | h | h
  · exact Or.inl ⟨h, Int32.not_le.mpr h⟩
  · have h0 : 0 ≤ x := Int32.le_trans (nI_pos' hn) h
    exact Or.inr (Or.inl ⟨Int32.not_lt.mpr h0, h0, h, Int32.not_lt.mpr h⟩)
  · exact Or.inr (Or.inr h)
theorem mb_e01 : ((0 : Int32) = 1) = False := eq_false (by decide)
theorem mb_e02 : ((0 : Int32) = 2) = False := eq_false (by decide)
theorem mb_e03 : ((0 : Int32) = 3) = False := eq_false (by decide)
theorem mb_e04 : ((0 : Int32) = 4) = False := eq_false (by decide)
theorem mb_e05 : ((0 : Int32) = 5) = False := eq_false (by decide)
theorem mb_e06 : ((0 : Int32) = 6) = False := eq_false (by decide)
theorem mb_e07 : ((0 : Int32) = 7) = False := eq_false (by decide)
theorem mb_l00 : ((0 : Int32) < 0) = False := eq_false (by decide)
theorem mb_l02 : ((0 : Int32) < 2) = True := eq_true (by decide)
theorem mb_g50 : ((5 : Int32) < 0) = False := eq_false (by decide)
theorem mb_g60 : ((6 : Int32) < 0) = False := eq_false (by decide)
theorem mb_e10 : ((1 : Int32) = 0) = False := eq_false (by decide)
theorem mb_e12 : ((1 : Int32) = 2) = False := eq_false (by decide)
theorem mb_e13 : ((1 : Int32) = 3) = False := eq_false (by decide)
theorem mb_e14 : ((1 : Int32) = 4) = False := eq_false (by decide)
theorem mb_e15 : ((1 : Int32) = 5) = False := eq_false (by decide)
theorem mb_e16 : ((1 : Int32) = 6) = False := eq_false (by decide)
theorem mb_e17 : ((1 : Int32) = 7) = False := eq_false (by decide)
theorem mb_l10 : ((1 : Int32) < 0) = False := eq_false (by decide)
theorem mb_l12 : ((1 : Int32) < 2) = True := eq_true (by decide)
theorem mb_g51 : ((5 : Int32) < 1) = False := eq_false (by decide)
theorem mb_g61 : ((6 : Int32) < 1) = False := eq_false (by decide)
theorem mb_e20 : ((2 : Int32) = 0) = False := eq_false (by decide)
theorem mb_e21 : ((2 : Int32) = 1) = False := eq_false (by decide)
theorem mb_e23 : ((2 : Int32) = 3) = False := eq_false (by decide)
theorem mb_e24 : ((2 : Int32) = 4) = False := eq_false (by decide)
theorem mb_e25 : ((2 : Int32) = 5) = False := eq_false (by decide)
theorem mb_e26 : ((2 : Int32) = 6) = False := eq_false (by decide)
theorem mb_e27 : ((2 : Int32) = 7) = False := eq_false (by decide)
theorem mb_l20 : ((2 : Int32) < 0) = False := eq_false (by decide)
theorem mb_l22 : ((2 : Int32) < 2) = False := eq_false (by decide)
theorem mb_g52 : ((5 : Int32) < 2) = False := eq_false (by decide)
theorem mb_g62 : ((6 : Int32) < 2) = False := eq_false (by decide)
theorem mb_e30 : ((3 : Int32) = 0) = False := eq_false (by decide)
theorem mb_e31 : ((3 : Int32) = 1) = False := eq_false (by decide)
theorem mb_e32 : ((3 : Int32) = 2) = False := eq_false (by decide)
theorem mb_e34 : ((3 : Int32) = 4) = False := eq_false (by decide)
theorem mb_e35 : ((3 : Int32) = 5) = False := eq_false (by decide)
theorem mb_e36 : ((3 : Int32) = 6) = False := eq_false (by decide)
theorem mb_e37 : ((3 : Int32) = 7) = False := eq_false (by decide)
theorem mb_l30 : ((3 : Int32) < 0) = False := eq_false (by decide)
theorem mb_l32 : ((3 : Int32) < 2) = False := eq_false (by decide)
theorem mb_g53 : ((5 : Int32) < 3) = False := eq_false (by decide)
theorem mb_g63 : ((6 : Int32) < 3) = False := eq_false (by decide)
theorem mb_e40 : ((4 : Int32) = 0) = False := eq_false (by decide)
theorem mb_e41 : ((4 : Int32) = 1) = False := eq_false (by decide)
theorem mb_e42 : ((4 : Int32) = 2) = False := eq_false (by decide)
theorem mb_e43 : ((4 : Int32) = 3) = False := eq_false (by decide)
theorem mb_e45 : ((4 : Int32) = 5) = False := eq_false (by decide)
theorem mb_e46 : ((4 : Int32) = 6) = False := eq_false (by decide)
theorem mb_e47 : ((4 : Int32) = 7) = False := eq_false (by decide)
theorem mb_l40 : ((4 : Int32) < 0) = False := eq_false (by decide)
theorem mb_l42 : ((4 : Int32) < 2) = False := eq_false (by decide)
theorem mb_g54 : ((5 : Int32) < 4) = False := eq_false (by decide)
theorem mb_g64 : ((6 : Int32) < 4) = False := eq_false (by decide)
theorem mb_e50 : ((5 : Int32) = 0) = False := eq_false (by decide)
theorem mb_e51 : ((5 : Int32) = 1) = False := eq_false (by decide)
theorem mb_e52 : ((5 : Int32) = 2) = False := eq_false (by decide)
theorem mb_e53 : ((5 : Int32) = 3) = False := eq_false (by decide)
theorem mb_e54 : ((5 : Int32) = 4) = False := eq_false (by decide)
theorem mb_e56 : ((5 : Int32) = 6) = False := eq_false (by decide)
theorem mb_e57 : ((5 : Int32) = 7) = False := eq_false (by decide)
theorem mb_l50 : ((5 : Int32) < 0) = False := eq_false (by decide)
theorem mb_l52 : ((5 : Int32) < 2) = False := eq_false (by decide)
theorem mb_g55 : ((5 : Int32) < 5) = False := eq_false (by decide)
theorem mb_g65 : ((6 : Int32) < 5) = False := eq_false (by decide)
theorem mb_e60 : ((6 : Int32) = 0) = False := eq_false (by decide)
theorem mb_e61 : ((6 : Int32) = 1) = False := eq_false (by decide)
theorem mb_e62 : ((6 : Int32) = 2) = False := eq_false (by decide)
theorem mb_e63 : ((6 : Int32) = 3) = False := eq_false (by decide)
theorem mb_e64 : ((6 : Int32) = 4) = False := eq_false (by decide)
theorem mb_e65 : ((6 : Int32) = 5) = False := eq_false (by decide)
theorem mb_e67 : ((6 : Int32) = 7) = False := eq_false (by decide)
theorem mb_l60 : ((6 : Int32) < 0) = False := eq_false (by decide)
theorem mb_l62 : ((6 : Int32) < 2) = False := eq_false (by decide)
theorem mb_g56 : ((5 : Int32) < 6) = True := eq_true (by decide)
theorem mb_g66 : ((6 : Int32) < 6) = False := eq_false (by decide)
theorem mb_e70 : ((7 : Int32) = 0) = False := eq_false (by decide)
theorem mb_e71 : ((7 : Int32) = 1) = False := eq_false (by decide)
theorem mb_e72 : ((7 : Int32) = 2) = False := eq_false (by decide)
theorem mb_e73 : ((7 : Int32) = 3) = False := eq_false (by decide)
theorem mb_e74 : ((7 : Int32) = 4) = False := eq_false (by decide)
theorem mb_e75 : ((7 : Int32) = 5) = False := eq_false (by decide)
theorem mb_e76 : ((7 : Int32) = 6) = False := eq_false (by decide)
theorem mb_l70 : ((7 : Int32) < 0) = False := eq_false (by decide)
theorem mb_l72 : ((7 : Int32) < 2) = False := eq_false (by decide)
theorem mb_g57 : ((5 : Int32) < 7) = True := eq_true (by decide)
theorem mb_g67 : ((6 : Int32) < 7) = True := eq_true (by decide)
end
end
section
section
variable {n p nd c : Nat} {par rev st pcs regs plen pop px py kd hm lk ht sl path : Nat → Int32}
theorem mx_mk {post : Int32 → St2 → Prop} {k h l : Int32} (hc : c < n) (hn : n ≤ 32) (K : post (nI c) (nI n, nI p, nI nd, nI (c + 1), par, rev, st, pcs, regs, plen, pop, px, py, (upd kd c k), (upd hm c h), (upd lk c l), (upd ht c 0), (upd (upd sl (c * 2) (-1)) (c * 2 + 1) (-1)), path)) : wpX_makeObject post (nI n, nI p, nI nd, nI c, par, rev, st, pcs, regs, plen, pop, px, py, kd, hm, lk, ht, sl, path) k h l := by
  simp (disch := omega) only [wpX_makeObject, nI_clamp, vp_in_nI, nI_1, nI_add, mb_lt_t, mb_lt_f, mb_le_t, mb_le_f, mb_ne, mb_lt0, mb_le0, mb_m1, mb_m1l, mb_m1g, mb_m1n, mb_x2, mb_x4, mb_x32, mb_lt_4, mb_le_4, mb_ge_4, mb_gt_4, mb_le_3, mb_gt_3, mb_le_7, mb_gt_7, mb_lt_32, mb_ge_32, mb_lt_128, mb_ge_128, mb_ge_1, mb_lt_1, mb_ge_1f, mb_lt_1t, not_true, not_false_iff, false_implies, true_implies, true_and, and_true, forall_eq, forall_const, eq_self, mb_e10]
  exact K
theorem mx_full {post : Int32 → St2 → Prop} {k h l : Int32} (hc : n ≤ c) (hn : c ≤ 32) (K : post (-4) (nI n, nI p, nI nd, nI c, par, rev, st, pcs, regs, plen, pop, px, py, kd, hm, lk, ht, sl, path)) : wpX_makeObject post (nI n, nI p, nI nd, nI c, par, rev, st, pcs, regs, plen, pop, px, py, kd, hm, lk, ht, sl, path) k h l := by
  simp (disch := omega) only [wpX_makeObject, nI_clamp, vp_in_nI, nI_1, nI_add, mb_lt_t, mb_lt_f, mb_le_t, mb_le_f, mb_ne, mb_lt0, mb_le0, mb_m1, mb_m1l, mb_m1g, mb_m1n, mb_x2, mb_x4, mb_x32, mb_lt_4, mb_le_4, mb_ge_4, mb_gt_4, mb_le_3, mb_gt_3, mb_le_7, mb_gt_7, mb_lt_32, mb_ge_32, mb_lt_128, mb_ge_128, mb_ge_1, mb_lt_1, mb_ge_1f, mb_lt_1t, not_true, not_false_iff, false_implies, true_implies, true_and, and_true, forall_eq, forall_const, eq_self, mb_e10]
  exact K
theorem mx_hit {post : Int32 → Prop} {t b : Int32} {f : Nat} (hf : f < c) (hc : c ≤ 32) (h1 : kd f = 3) (h2 : hm f = b) (h3 : lk f = t) (hn : ∀ j, j < f → ¬ (kd j = 3 ∧ hm j = b ∧ lk j = t)) (K : post (nI f)) : ∀ m i : Nat, i ≤ f → f - i < m → wX_findForwarder_2 post t b (nI n) (nI p) (nI nd) (nI c) par rev st pcs regs plen pop px py kd hm lk ht sl path m (nI i) := by
  intro m
  induction m with
  | zero => intro i _ z; omega
  | succ m ih =>
    intro i hi z
    by_cases e : i = f
    · subst e
      simp (disch := omega) only [wX_findForwarder_2, nI_clamp, vp_in_nI, nI_1, nI_add, mb_lt_t, mb_lt_f, mb_le_t, mb_le_f, mb_ne, mb_lt0, mb_le0, mb_m1, mb_m1l, mb_m1g, mb_m1n, mb_x2, mb_x4, mb_x32, mb_lt_4, mb_le_4, mb_ge_4, mb_gt_4, mb_le_3, mb_gt_3, mb_le_7, mb_gt_7, mb_lt_32, mb_ge_32, mb_lt_128, mb_ge_128, mb_ge_1, mb_lt_1, mb_ge_1f, mb_lt_1t, not_true, not_false_iff, false_implies, true_implies, true_and, and_true, forall_eq, forall_const, eq_self, mb_e10, h1, h2, h3]
      exact K
    · have K' := ih (i + 1) (by omega) (by omega)
      have hno := hn i (by omega)
      by_cases k1 : kd i = 3
      · by_cases k2 : hm i = b
        · have k3 : ¬ lk i = t := fun z => hno ⟨k1, k2, z⟩
          simp (disch := omega) only [wX_findForwarder_2, nI_clamp, vp_in_nI, nI_1, nI_add, mb_lt_t, mb_lt_f, mb_le_t, mb_le_f, mb_ne, mb_lt0, mb_le0, mb_m1, mb_m1l, mb_m1g, mb_m1n, mb_x2, mb_x4, mb_x32, mb_lt_4, mb_le_4, mb_ge_4, mb_gt_4, mb_le_3, mb_gt_3, mb_le_7, mb_gt_7, mb_lt_32, mb_ge_32, mb_lt_128, mb_ge_128, mb_ge_1, mb_lt_1, mb_ge_1f, mb_lt_1t, not_true, not_false_iff, false_implies, true_implies, true_and, and_true, forall_eq, forall_const, eq_self, mb_e10, k1, k2, k3]
          exact K'
        · simp (disch := omega) only [wX_findForwarder_2, nI_clamp, vp_in_nI, nI_1, nI_add, mb_lt_t, mb_lt_f, mb_le_t, mb_le_f, mb_ne, mb_lt0, mb_le0, mb_m1, mb_m1l, mb_m1g, mb_m1n, mb_x2, mb_x4, mb_x32, mb_lt_4, mb_le_4, mb_ge_4, mb_gt_4, mb_le_3, mb_gt_3, mb_le_7, mb_gt_7, mb_lt_32, mb_ge_32, mb_lt_128, mb_ge_128, mb_ge_1, mb_lt_1, mb_ge_1f, mb_lt_1t, not_true, not_false_iff, false_implies, true_implies, true_and, and_true, forall_eq, forall_const, eq_self, mb_e10, k1, k2]
          exact K'
      · simp (disch := omega) only [wX_findForwarder_2, nI_clamp, vp_in_nI, nI_1, nI_add, mb_lt_t, mb_lt_f, mb_le_t, mb_le_f, mb_ne, mb_lt0, mb_le0, mb_m1, mb_m1l, mb_m1g, mb_m1n, mb_x2, mb_x4, mb_x32, mb_lt_4, mb_le_4, mb_ge_4, mb_gt_4, mb_le_3, mb_gt_3, mb_le_7, mb_gt_7, mb_lt_32, mb_ge_32, mb_lt_128, mb_ge_128, mb_ge_1, mb_lt_1, mb_ge_1f, mb_lt_1t, not_true, not_false_iff, false_implies, true_implies, true_and, and_true, forall_eq, forall_const, eq_self, mb_e10, k1]
        exact K'
theorem mx_miss {post : Int32 → Prop} {t b : Int32} (hc : c ≤ 32) (hn : ∀ j, j < c → ¬ (kd j = 3 ∧ hm j = b ∧ lk j = t)) (K : post (-1)) : ∀ m i : Nat, i ≤ c → c - i < m → wX_findForwarder_2 post t b (nI n) (nI p) (nI nd) (nI c) par rev st pcs regs plen pop px py kd hm lk ht sl path m (nI i) := by
  intro m
  induction m with
  | zero => intro i _ z; omega
  | succ m ih =>
    intro i hi z
    by_cases e : i = c
    · subst e
      simp (disch := omega) only [wX_findForwarder_2, nI_clamp, vp_in_nI, nI_1, nI_add, mb_lt_t, mb_lt_f, mb_le_t, mb_le_f, mb_ne, mb_lt0, mb_le0, mb_m1, mb_m1l, mb_m1g, mb_m1n, mb_x2, mb_x4, mb_x32, mb_lt_4, mb_le_4, mb_ge_4, mb_gt_4, mb_le_3, mb_gt_3, mb_le_7, mb_gt_7, mb_lt_32, mb_ge_32, mb_lt_128, mb_ge_128, mb_ge_1, mb_lt_1, mb_ge_1f, mb_lt_1t, not_true, not_false_iff, false_implies, true_implies, true_and, and_true, forall_eq, forall_const, eq_self, mb_e10]
      exact K
    · have K' := ih (i + 1) (by omega) (by omega)
      have hno := hn i (by omega)
      by_cases k1 : kd i = 3
      · by_cases k2 : hm i = b
        · have k3 : ¬ lk i = t := fun z => hno ⟨k1, k2, z⟩
          simp (disch := omega) only [wX_findForwarder_2, nI_clamp, vp_in_nI, nI_1, nI_add, mb_lt_t, mb_lt_f, mb_le_t, mb_le_f, mb_ne, mb_lt0, mb_le0, mb_m1, mb_m1l, mb_m1g, mb_m1n, mb_x2, mb_x4, mb_x32, mb_lt_4, mb_le_4, mb_ge_4, mb_gt_4, mb_le_3, mb_gt_3, mb_le_7, mb_gt_7, mb_lt_32, mb_ge_32, mb_lt_128, mb_ge_128, mb_ge_1, mb_lt_1, mb_ge_1f, mb_lt_1t, not_true, not_false_iff, false_implies, true_implies, true_and, and_true, forall_eq, forall_const, eq_self, mb_e10, k1, k2, k3]
          exact K'
        · simp (disch := omega) only [wX_findForwarder_2, nI_clamp, vp_in_nI, nI_1, nI_add, mb_lt_t, mb_lt_f, mb_le_t, mb_le_f, mb_ne, mb_lt0, mb_le0, mb_m1, mb_m1l, mb_m1g, mb_m1n, mb_x2, mb_x4, mb_x32, mb_lt_4, mb_le_4, mb_ge_4, mb_gt_4, mb_le_3, mb_gt_3, mb_le_7, mb_gt_7, mb_lt_32, mb_ge_32, mb_lt_128, mb_ge_128, mb_ge_1, mb_lt_1, mb_ge_1f, mb_lt_1t, not_true, not_false_iff, false_implies, true_implies, true_and, and_true, forall_eq, forall_const, eq_self, mb_e10, k1, k2]
          exact K'
      · simp (disch := omega) only [wX_findForwarder_2, nI_clamp, vp_in_nI, nI_1, nI_add, mb_lt_t, mb_lt_f, mb_le_t, mb_le_f, mb_ne, mb_lt0, mb_le0, mb_m1, mb_m1l, mb_m1g, mb_m1n, mb_x2, mb_x4, mb_x32, mb_lt_4, mb_le_4, mb_ge_4, mb_gt_4, mb_le_3, mb_gt_3, mb_le_7, mb_gt_7, mb_lt_32, mb_ge_32, mb_lt_128, mb_ge_128, mb_ge_1, mb_lt_1, mb_ge_1f, mb_lt_1t, not_true, not_false_iff, false_implies, true_implies, true_and, and_true, forall_eq, forall_const, eq_self, mb_e10, k1]
        exact K'
/-- where the reference isn't a forwarder that goes home, the class looks for a forwarder -/
theorem mx_go {post : Int32 → St2 → Prop} {j a b : Nat} (hj : j < c) (hc : c ≤ 32) (o : mb_ob par nd j kd hm lk) (hno : ¬ (kd j = 3 ∧ hm j = nI a ∧ hm (lk j).toNatClampNeg = nI b))
    (K : wX_carry_49 post (nI j) (nI b) (nI n) (nI p) (nI nd) (nI c) par rev st pcs regs plen pop px py kd hm lk ht sl path) : wpX_carry post (nI n, nI p, nI nd, nI c, par, rev, st, pcs, regs, plen, pop, px, py, kd, hm, lk, ht, sl, path) (nI j) (nI a) (nI b) := by
  by_cases k3 : kd j = 3
  · obtain ⟨-, t, -, -, -, h1, et, -⟩ := mb_fw o k3
    by_cases e1 : hm j = nI a
    · have e2 : ¬ hm t = nI b := fun e => hno ⟨k3, e1, by rw [et, nI_clamp (by omega)]; exact e⟩
      simp (disch := omega) only [wpX_carry, nI_clamp, vp_in_nI, nI_1, nI_add, mb_lt_t, mb_lt_f, mb_le_t, mb_le_f, mb_ne, mb_lt0, mb_le0, mb_m1, mb_m1l, mb_m1g, mb_m1n, mb_x2, mb_x4, mb_x32, mb_lt_4, mb_le_4, mb_ge_4, mb_gt_4, mb_le_3, mb_gt_3, mb_le_7, mb_gt_7, mb_lt_32, mb_ge_32, mb_lt_128, mb_ge_128, mb_ge_1, mb_lt_1, mb_ge_1f, mb_lt_1t, not_true, not_false_iff, false_implies, true_implies, true_and, and_true, forall_eq, forall_const, eq_self, mb_e10, k3, e1, et, e2]
      exact K
    · simp (disch := omega) only [wpX_carry, nI_clamp, vp_in_nI, nI_1, nI_add, mb_lt_t, mb_lt_f, mb_le_t, mb_le_f, mb_ne, mb_lt0, mb_le0, mb_m1, mb_m1l, mb_m1g, mb_m1n, mb_x2, mb_x4, mb_x32, mb_lt_4, mb_le_4, mb_ge_4, mb_gt_4, mb_le_3, mb_gt_3, mb_le_7, mb_gt_7, mb_lt_32, mb_ge_32, mb_lt_128, mb_ge_128, mb_ge_1, mb_lt_1, mb_ge_1f, mb_lt_1t, not_true, not_false_iff, false_implies, true_implies, true_and, and_true, forall_eq, forall_const, eq_self, mb_e10, k3, e1]
      exact K
  · simp (disch := omega) only [wpX_carry, nI_clamp, vp_in_nI, nI_1, nI_add, mb_lt_t, mb_lt_f, mb_le_t, mb_le_f, mb_ne, mb_lt0, mb_le0, mb_m1, mb_m1l, mb_m1g, mb_m1n, mb_x2, mb_x4, mb_x32, mb_lt_4, mb_le_4, mb_ge_4, mb_gt_4, mb_le_3, mb_gt_3, mb_le_7, mb_gt_7, mb_lt_32, mb_ge_32, mb_lt_128, mb_ge_128, mb_ge_1, mb_lt_1, mb_ge_1f, mb_lt_1t, not_true, not_false_iff, false_implies, true_implies, true_and, and_true, forall_eq, forall_const, eq_self, mb_e10, k3]
    exact K
theorem mb_carry (H : mb_H n nd c par kd hm lk sl) {r : Int32} {a b : Nat} (hr : mb_rf c hm (nI a) r) (ha : a < nd) (hb : b < nd) (hab : mb_adj par a b) (ht : Nat → Int32) :
    ∃ (c' : Nat) (kd' hm' lk' ht' sl' : Nat → Int32) (rX : Int32), mb_H n nd c' par kd' hm' lk' sl' ∧ mb_E c kd hm lk c' kd' hm' lk' ∧ (∀ S, mb_Fr S c hm ht sl ht' sl') ∧ (mb_rf c' hm' (nI b) rX ∨ rX = -4) ∧
      (∀ (p : Nat) (rev st pcs regs plen pop px py path : Nat → Int32) (post : Int32 → St2 → Prop), post rX (nI n, nI p, nI nd, nI c', par, rev, st, pcs, regs, plen, pop, px, py, kd', hm', lk', ht', sl', path) → wpX_carry post (nI n, nI p, nI nd, nI c, par, rev, st, pcs, regs, plen, pop, px, py, kd, hm, lk, ht, sl, path) r (nI a) (nI b)) := by
  have hn : n ≤ 32 := H.2.1
  have hcn : c ≤ n := H.1
  rcases hr with rfl | ⟨j, hj, rfl, ej⟩
  · refine ⟨c, kd, hm, lk, ht, sl, -1, H, mb_E_rf, fun _ => mb_Fr_rf, Or.inl (Or.inl rfl), ?_⟩
    intro p rev st pcs regs plen pop px py path post K
    exact br_t rfl K
  · have o := mb_H_ob H hj
    by_cases hh : kd j = 3 ∧ hm j = nI a ∧ hm (lk j).toNatClampNeg = nI b
    · obtain ⟨k3, e1, e2⟩ := hh
      obtain ⟨-, t, -, -, -, h1, et, -⟩ := mb_fw o k3
      rw [et, nI_clamp (by omega)] at e2
      refine ⟨c, kd, hm, lk, ht, sl, nI t, H, mb_E_rf, fun _ => mb_Fr_rf, Or.inl (Or.inr ⟨t, by omega, rfl, e2⟩), ?_⟩
      intro p rev st pcs regs plen pop px py path post K
      simp (disch := omega) only [wpX_carry, nI_clamp, vp_in_nI, nI_1, nI_add, mb_lt_t, mb_lt_f, mb_le_t, mb_le_f, mb_ne, mb_lt0, mb_le0, mb_m1, mb_m1l, mb_m1g, mb_m1n, mb_x2, mb_x4, mb_x32, mb_lt_4, mb_le_4, mb_ge_4, mb_gt_4, mb_le_3, mb_gt_3, mb_le_7, mb_gt_7, mb_lt_32, mb_ge_32, mb_lt_128, mb_ge_128, mb_ge_1, mb_lt_1, mb_ge_1f, mb_lt_1t, not_true, not_false_iff, false_implies, true_implies, true_and, and_true, forall_eq, forall_const, eq_self, mb_e10, k3, e1, et, e2]
      exact K
    · rcases mb_first (fun f => kd f = 3 ∧ hm f = nI b ∧ lk f = nI j) c with ⟨f, hf, ⟨f1, f2, f3⟩, fm⟩ | fm
      · refine ⟨c, kd, hm, lk, ht, sl, nI f, H, mb_E_rf, fun _ => mb_Fr_rf, Or.inl (Or.inr ⟨f, hf, rfl, f2⟩), ?_⟩
        intro p rev st pcs regs plen pop px py path post K
        refine mx_go hj (by omega) o hh ?_
        refine ⟨c + 1, mx_hit hf (by omega) f1 f2 f3 fm ?_ (c + 1) 0 (by omega) (by omega)⟩
        exact br_f (mb_n1 (by omega)) K
      · by_cases hfull : c < n
        · refine ⟨c + 1, upd kd c 3, upd hm c (nI b), upd lk c (nI j), upd ht c 0, upd (upd sl (c * 2) (-1)) (c * 2 + 1) (-1), nI c, ?_, mb_mkE, fun _ => mb_mkF, Or.inl (Or.inr ⟨c, by omega, rfl, pk_us⟩), ?_⟩
          · refine mb_mk H hfull ?_ (fun _ => fm)
            refine ⟨b, hb, pk_us, Or.inr (Or.inr ⟨pk_us, j, a, hj, pk_us, ha, by rw [pk_un (by omega)]; exact ej, mb_adj_s hab, ?_⟩)⟩
            rw [pk_un (show j ≠ c by omega), pk_un (show j ≠ c by omega)]
            rintro ⟨k3, q⟩
            obtain ⟨-, t, -, -, -, h1, et, -⟩ := mb_fw o k3
            rw [et, nI_clamp (by omega), pk_un (by omega)] at q
            exact hh ⟨k3, ej, by rw [et, nI_clamp (by omega)]; exact q⟩
          · intro p rev st pcs regs plen pop px py path post K
            refine mx_go hj (by omega) o hh ?_
            refine ⟨c + 1, mx_miss (by omega) fm ?_ (c + 1) 0 (by omega) (by omega)⟩
            refine br_t rfl ?_
            exact mx_mk hfull hn K
        · refine ⟨c, kd, hm, lk, ht, sl, -4, H, mb_E_rf, fun _ => mb_Fr_rf, Or.inr rfl, ?_⟩
          intro p rev st pcs regs plen pop px py path post K
          refine mx_go hj (by omega) o hh ?_
          refine ⟨c + 1, mx_miss (by omega) fm ?_ (c + 1) 0 (by omega) (by omega)⟩
          refine br_t rfl ?_
          exact mx_full (by omega) (by omega) K
end
end
section
section
variable {n p nd c c1 : Nat} {par rev st pcs regs plen pop px py kd hm lk ht sl path kd1 hm1 lk1 ht1 sl1 : Nat → Int32} {aX res : Int32}
theorem mx_mbE {post : Int32 → Prop} {x y : Nat} (h1 : x < 4) (h2 : y < 4) : wpX_membraneBetween post () (nI x) (nI y) = post (nI (mb_mx x y)) := by
  unfold mb_mx
  by_cases z : y < x
  · rw [if_pos z]
    simp (disch := omega) only [wpX_membraneBetween, nI_clamp, vp_in_nI, nI_1, nI_add, mb_lt_t, mb_lt_f, mb_le_t, mb_le_f, mb_ne, mb_lt0, mb_le0, mb_m1, mb_m1l, mb_m1g, mb_m1n, mb_x2, mb_x4, mb_x32, mb_lt_4, mb_le_4, mb_ge_4, mb_gt_4, mb_le_3, mb_gt_3, mb_le_7, mb_gt_7, mb_lt_32, mb_ge_32, mb_lt_128, mb_ge_128, mb_ge_1, mb_lt_1, mb_ge_1f, mb_lt_1t, not_true, not_false_iff, false_implies, true_implies, true_and, and_true, forall_eq, forall_const, eq_self, mb_e10]
  · rw [if_neg z]
    simp (disch := omega) only [wpX_membraneBetween, nI_clamp, vp_in_nI, nI_1, nI_add, mb_lt_t, mb_lt_f, mb_le_t, mb_le_f, mb_ne, mb_lt0, mb_le0, mb_m1, mb_m1l, mb_m1g, mb_m1n, mb_x2, mb_x4, mb_x32, mb_lt_4, mb_le_4, mb_ge_4, mb_gt_4, mb_le_3, mb_gt_3, mb_le_7, mb_gt_7, mb_lt_32, mb_ge_32, mb_lt_128, mb_ge_128, mb_ge_1, mb_lt_1, mb_ge_1f, mb_lt_1t, not_true, not_false_iff, false_implies, true_implies, true_and, and_true, forall_eq, forall_const, eq_self, mb_e10]
theorem mx_bk {post : Int32 → St2 → Prop} {m k x y : Nat} (hk : k < 32) (h1 : x < 4) (h2 : y < 4) (ex : path k = nI x) (ey : path (k + 1) = nI y) (rv : rev (mb_mx x y) = 0)
    (cX : ∀ post' : Int32 → St2 → Prop, post' aX (nI n, nI p, nI nd, nI c1, par, rev, st, pcs, regs, plen, pop, px, py, kd1, hm1, lk1, ht1, sl1, path) → wpX_carry post' (nI n, nI p, nI nd, nI c, par, rev, st, pcs, regs, plen, pop, px, py, kd, hm, lk, ht, sl, path) res (nI y) (nI x)) (nf : -1 ≤ aX) (K : wX_carryBack_7 post m aX (nI k + -1) (nI n) (nI p) (nI nd) (nI c1) par rev st pcs regs plen pop px py kd1 hm1 lk1 ht1 sl1 path) : wX_carryBack_7 post (m + 1) res (nI (k + 1) + -1) (nI n) (nI p) (nI nd) (nI c) par rev st pcs regs plen pop px py kd hm lk ht sl path := by
  rw [pk_m1]
  have hmx := mb_mx_lt (d := 4) h1 h2
  simp (disch := omega) only [wX_carryBack_7, mx_mbE, nI_clamp, vp_in_nI, nI_1, nI_add, mb_lt_t, mb_lt_f, mb_le_t, mb_le_f, mb_ne, mb_lt0, mb_le0, mb_m1, mb_m1l, mb_m1g, mb_m1n, mb_x2, mb_x4, mb_x32, mb_lt_4, mb_le_4, mb_ge_4, mb_gt_4, mb_le_3, mb_gt_3, mb_le_7, mb_gt_7, mb_lt_32, mb_ge_32, mb_lt_128, mb_ge_128, mb_ge_1, mb_lt_1, mb_ge_1f, mb_lt_1t, not_true, not_false_iff, false_implies, true_implies, true_and, and_true, forall_eq, forall_const, eq_self, mb_e10, ex, ey, rv]
  refine cX _ ?_
  simp (disch := omega) only [wpX_isFault, nI_clamp, vp_in_nI, nI_1, nI_add, mb_lt_t, mb_lt_f, mb_le_t, mb_le_f, mb_ne, mb_lt0, mb_le0, mb_m1, mb_m1l, mb_m1g, mb_m1n, mb_x2, mb_x4, mb_x32, mb_lt_4, mb_le_4, mb_ge_4, mb_gt_4, mb_le_3, mb_gt_3, mb_le_7, mb_gt_7, mb_lt_32, mb_ge_32, mb_lt_128, mb_ge_128, mb_ge_1, mb_lt_1, mb_ge_1f, mb_lt_1t, not_true, not_false_iff, false_implies, true_implies, true_and, and_true, forall_eq, forall_const, eq_self, mb_e10, nf]
  exact K
theorem mx_bkf {post : Int32 → St2 → Prop} {m k x y : Nat} (hk : k < 32) (h1 : x < 4) (h2 : y < 4) (ex : path k = nI x) (ey : path (k + 1) = nI y) (rv : rev (mb_mx x y) = 0)
    (cX : ∀ post' : Int32 → St2 → Prop, post' (-4) (nI n, nI p, nI nd, nI c1, par, rev, st, pcs, regs, plen, pop, px, py, kd1, hm1, lk1, ht1, sl1, path) → wpX_carry post' (nI n, nI p, nI nd, nI c, par, rev, st, pcs, regs, plen, pop, px, py, kd, hm, lk, ht, sl, path) res (nI y) (nI x)) (K : post (-4) (nI n, nI p, nI nd, nI c1, par, rev, st, pcs, regs, plen, pop, px, py, kd1, hm1, lk1, ht1, sl1, path)) : wX_carryBack_7 post (m + 1) res (nI (k + 1) + -1) (nI n) (nI p) (nI nd) (nI c) par rev st pcs regs plen pop px py kd hm lk ht sl path := by
  rw [pk_m1]
  have hmx := mb_mx_lt (d := 4) h1 h2
  simp (disch := omega) only [wX_carryBack_7, mx_mbE, nI_clamp, vp_in_nI, nI_1, nI_add, mb_lt_t, mb_lt_f, mb_le_t, mb_le_f, mb_ne, mb_lt0, mb_le0, mb_m1, mb_m1l, mb_m1g, mb_m1n, mb_x2, mb_x4, mb_x32, mb_lt_4, mb_le_4, mb_ge_4, mb_gt_4, mb_le_3, mb_gt_3, mb_le_7, mb_gt_7, mb_lt_32, mb_ge_32, mb_lt_128, mb_ge_128, mb_ge_1, mb_lt_1, mb_ge_1f, mb_lt_1t, not_true, not_false_iff, false_implies, true_implies, true_and, and_true, forall_eq, forall_const, eq_self, mb_e10, ex, ey, rv]
  refine cX _ ?_
  have nf : ¬ ((-1 : Int32) ≤ -4) := by decide
  simp (disch := omega) only [wpX_isFault, nI_clamp, vp_in_nI, nI_1, nI_add, mb_lt_t, mb_lt_f, mb_le_t, mb_le_f, mb_ne, mb_lt0, mb_le0, mb_m1, mb_m1l, mb_m1g, mb_m1n, mb_x2, mb_x4, mb_x32, mb_lt_4, mb_le_4, mb_ge_4, mb_gt_4, mb_le_3, mb_gt_3, mb_le_7, mb_gt_7, mb_lt_32, mb_ge_32, mb_lt_128, mb_ge_128, mb_ge_1, mb_lt_1, mb_ge_1f, mb_lt_1t, not_true, not_false_iff, false_implies, true_implies, true_and, and_true, forall_eq, forall_const, eq_self, mb_e10, nf]
  exact K
theorem mx_bkr {post : Int32 → St2 → Prop} {m k x y : Nat} (hk : k < 32) (h1 : x < 4) (h2 : y < 4) (ex : path k = nI x) (ey : path (k + 1) = nI y) (rv : ¬ rev (mb_mx x y) = 0)
    (K : post (-3) (nI n, nI p, nI nd, nI c, par, rev, st, pcs, regs, plen, pop, px, py, kd, hm, lk, ht, sl, path)) : wX_carryBack_7 post (m + 1) res (nI (k + 1) + -1) (nI n) (nI p) (nI nd) (nI c) par rev st pcs regs plen pop px py kd hm lk ht sl path := by
  rw [pk_m1]
  have hmx := mb_mx_lt (d := 4) h1 h2
  simp (disch := omega) only [wX_carryBack_7, mx_mbE, nI_clamp, vp_in_nI, nI_1, nI_add, mb_lt_t, mb_lt_f, mb_le_t, mb_le_f, mb_ne, mb_lt0, mb_le0, mb_m1, mb_m1l, mb_m1g, mb_m1n, mb_x2, mb_x4, mb_x32, mb_lt_4, mb_le_4, mb_ge_4, mb_gt_4, mb_le_3, mb_gt_3, mb_le_7, mb_gt_7, mb_lt_32, mb_ge_32, mb_lt_128, mb_ge_128, mb_ge_1, mb_lt_1, mb_ge_1f, mb_lt_1t, not_true, not_false_iff, false_implies, true_implies, true_and, and_true, forall_eq, forall_const, eq_self, mb_e10, ex, ey, rv]
  exact K
theorem mb_rf_le {c : Nat} {hm : Nat → Int32} {h r : Int32} (a : mb_rf c hm h r) (hc : c ≤ 32) : -1 ≤ r := by
  rcases a with rfl | ⟨j, hj, rfl, -⟩
  · decide
  · exact of_eq_true (mb_m1l (by omega))
/-- the way back -/
theorem mb_back {g : Nat → Nat} : ∀ (k c : Nat) (kd hm lk ht sl : Nat → Int32) (res : Int32), mb_H n nd c par kd hm lk sl → mb_rf c hm (nI (g k)) res → mb_W par nd k g path → k ≤ 32 →
    ∃ (c' : Nat) (kd' hm' lk' ht' sl' : Nat → Int32) (rX : Int32), mb_H n nd c' par kd' hm' lk' sl' ∧ mb_E c kd hm lk c' kd' hm' lk' ∧ (∀ S, mb_Fr S c hm ht sl ht' sl') ∧ mb_A c' hm' (nI (g 0)) rX ∧
      (∀ (p : Nat) (st pcs regs plen pop px py : Nat → Int32) (post : Int32 → St2 → Prop), post rX (nI n, nI p, nI nd, nI c', par, rev, st, pcs, regs, plen, pop, px, py, kd', hm', lk', ht', sl', path) → ∀ m, k < m → wX_carryBack_7 post m res (nI k + -1) (nI n) (nI p) (nI nd) (nI c) par rev st pcs regs plen pop px py kd hm lk ht sl path) := by
  intro k
  induction k with
  | zero =>
    intro c kd hm lk ht sl res H hr W hk
    refine ⟨c, kd, hm, lk, ht, sl, res, H, mb_E_rf, fun _ => mb_Fr_rf, Or.inl hr, ?_⟩
    intro p st pcs regs plen pop px py post K m h
    obtain ⟨m, rfl⟩ : ∃ q, m = q + 1 := ⟨m - 1, by omega⟩
    exact br_t (by decide) K
  | succ k ih =>
    intro c kd hm lk ht sl res H hr W hk
    have hnd : nd ≤ 4 := H.2.2.2.1
    obtain ⟨x1, ex⟩ := W.1 k (by omega)
    obtain ⟨y1, ey⟩ := W.1 (k + 1) (by omega)
    have had := W.2 k (by omega)
    have hmx := mb_mx_lt (d := 4) (show g k < 4 by omega) (show g (k + 1) < 4 by omega)
    by_cases rv : rev (mb_mx (g k) (g (k + 1))) = 0
    · obtain ⟨c1, kd1, hm1, lk1, ht1, sl1, aX, H1, E1, F1, hA, cX⟩ := mb_carry H hr y1 x1 (mb_adj_s had) ht
      have hc1 : c1 ≤ 32 := Nat.le_trans H1.1 H1.2.1
      rcases hA with r1 | rfl
      · obtain ⟨c', kd', hm', lk', ht', sl', rX, H2, E2, F2, A2, iX⟩ := ih c1 kd1 hm1 lk1 ht1 sl1 aX H1 r1 (mb_W_dn W) (by omega)
        refine ⟨c', kd', hm', lk', ht', sl', rX, H2, mb_E_tr E1 E2, fun S => mb_Fr_tr (F1 S) E1 (F2 S), A2, ?_⟩
        intro p st pcs regs plen pop px py post K m h
        obtain ⟨m, rfl⟩ : ∃ q, m = q + 1 := ⟨m - 1, by omega⟩
        exact mx_bk (by omega) (by omega) (by omega) ex ey rv (fun post' K' => cX p rev st pcs regs plen pop px py path post' K') (mb_rf_le r1 hc1) (iX p st pcs regs plen pop px py post K m (by omega))
      · refine ⟨c1, kd1, hm1, lk1, ht1, sl1, -4, H1, E1, F1, Or.inr ⟨3, by omega, by omega, by decide⟩, ?_⟩
        intro p st pcs regs plen pop px py post K m h
        obtain ⟨m, rfl⟩ : ∃ q, m = q + 1 := ⟨m - 1, by omega⟩
        exact mx_bkf (by omega) (by omega) (by omega) ex ey rv (fun post' K' => cX p rev st pcs regs plen pop px py path post' K') K
    · refine ⟨c, kd, hm, lk, ht, sl, -3, H, mb_E_rf, fun _ => mb_Fr_rf, Or.inr ⟨2, by omega, by omega, by decide⟩, ?_⟩
      intro p st pcs regs plen pop px py post K m h
      obtain ⟨m, rfl⟩ : ∃ q, m = q + 1 := ⟨m - 1, by omega⟩
      exact mx_bkr (by omega) (by omega) (by omega) ex ey rv K
end
end
section
section
variable {n p nd c c1 : Nat} {par rev st pcs regs plen pop px py kd hm lk ht sl path kd1 hm1 lk1 ht1 sl1 : Nat → Int32} {aX res op arg : Int32}
theorem mb_rm_set (rev : Nat → Int32) (l : Nat) : mb_rm rev (upd rev l 1) := by
  intro i h
  by_cases e : i = l
  · rw [e, pk_us]; decide
  · rw [pk_un e]; exact h
/-- what a box or a revoker does -/
theorem mb_act (H : mb_H n nd c par kd hm lk sl) {cur : Nat} (hcur : cur < c) (k3 : ¬ kd cur = 3) (harg : mb_rf c hm (hm cur) arg) (hop : op = 2 ∨ op = 3 ∨ op = 4 ∨ op = 5 ∨ op = 6) (rev ht : Nat → Int32) :
    ∃ (rev' sl' : Nat → Int32) (res : Int32), mb_V nd rev rev' ∧ mb_H n nd c par kd hm lk sl' ∧ mb_rf c hm (hm cur) res ∧ (∀ S : Int32 → Prop, S (hm cur) → mb_Fr S c hm ht sl (upd ht cur (ht cur + 1)) sl') ∧
      (∀ (path : Nat → Int32) (p : Nat) (st pcs regs plen pop px py : Nat → Int32) (post : Int32 → St2 → Prop), post res (nI n, nI p, nI nd, nI c, par, rev', st, pcs, regs, plen, pop, px, py, kd, hm, lk, (upd ht cur (ht cur + 1)), sl', path) → wpX_act post (nI n, nI p, nI nd, nI c, par, rev, st, pcs, regs, plen, pop, px, py, kd, hm, lk, ht, sl, path) (nI cur) op arg) := by
  have hn : n ≤ 32 := H.2.1
  have hcn : c ≤ n := H.1
  have hnd : nd ≤ 4 := H.2.2.2.1
  have fset : ∀ (j q : Nat) (v : Int32), (q = 0 ∨ q = 1) → j = cur * 2 + q → ∀ S : Int32 → Prop, S (hm cur) → mb_Fr S c hm ht sl (upd ht cur (ht cur + 1)) (upd sl j v) := by
    intro j q v hq hj S s i hi z
    have e : i ≠ cur := fun e => z (by rw [e]; exact s)
    exact ⟨pk_un e, pk_un (by omega), pk_un (by omega)⟩
  obtain ⟨a, ha, ea, ⟨kk, lkk⟩ | ⟨kk, l, l1, l2, el⟩ | ⟨kk, -⟩⟩ := mb_H_ob H hcur
  · obtain ⟨s0, s1⟩ := H.2.2.2.2.2.1 cur hcur kk
    rcases hop with rfl | rfl | rfl | rfl | rfl
    · refine ⟨rev, sl, sl (cur * 2), mb_V_rf, H, s0, fun S s => mb_Fr_hit s, ?_⟩
      intro path p st pcs regs plen pop px py post K
      simp (disch := omega) only [wpX_act, nI_clamp, vp_in_nI, nI_1, nI_add, mb_lt_t, mb_lt_f, mb_le_t, mb_le_f, mb_ne, mb_lt0, mb_le0, mb_m1, mb_m1l, mb_m1g, mb_m1n, mb_x2, mb_x4, mb_x32, mb_lt_4, mb_le_4, mb_ge_4, mb_gt_4, mb_le_3, mb_gt_3, mb_le_7, mb_gt_7, mb_lt_32, mb_ge_32, mb_lt_128, mb_ge_128, mb_ge_1, mb_lt_1, mb_ge_1f, mb_lt_1t, not_true, not_false_iff, false_implies, true_implies, true_and, and_true, forall_eq, forall_const, eq_self, mb_e10, mb_e01, mb_e02, mb_e03, mb_e04, mb_e05, mb_e06, mb_e07, mb_l00, mb_l02, mb_g50, mb_g60, mb_e10, mb_e12, mb_e13, mb_e14, mb_e15, mb_e16, mb_e17, mb_l10, mb_l12, mb_g51, mb_g61, mb_e20, mb_e21, mb_e23, mb_e24, mb_e25, mb_e26, mb_e27, mb_l20, mb_l22, mb_g52, mb_g62, mb_e30, mb_e31, mb_e32, mb_e34, mb_e35, mb_e36, mb_e37, mb_l30, mb_l32, mb_g53, mb_g63, mb_e40, mb_e41, mb_e42, mb_e43, mb_e45, mb_e46, mb_e47, mb_l40, mb_l42, mb_g54, mb_g64, mb_e50, mb_e51, mb_e52, mb_e53, mb_e54, mb_e56, mb_e57, mb_l50, mb_l52, mb_g55, mb_g65, mb_e60, mb_e61, mb_e62, mb_e63, mb_e64, mb_e65, mb_e67, mb_l60, mb_l62, mb_g56, mb_g66, mb_e70, mb_e71, mb_e72, mb_e73, mb_e74, mb_e75, mb_e76, mb_l70, mb_l72, mb_g57, mb_g67, kk]
      exact K
    · refine ⟨rev, sl, sl (cur * 2 + 1), mb_V_rf, H, s1, fun S s => mb_Fr_hit s, ?_⟩
      intro path p st pcs regs plen pop px py post K
      simp (disch := omega) only [wpX_act, nI_clamp, vp_in_nI, nI_1, nI_add, mb_lt_t, mb_lt_f, mb_le_t, mb_le_f, mb_ne, mb_lt0, mb_le0, mb_m1, mb_m1l, mb_m1g, mb_m1n, mb_x2, mb_x4, mb_x32, mb_lt_4, mb_le_4, mb_ge_4, mb_gt_4, mb_le_3, mb_gt_3, mb_le_7, mb_gt_7, mb_lt_32, mb_ge_32, mb_lt_128, mb_ge_128, mb_ge_1, mb_lt_1, mb_ge_1f, mb_lt_1t, not_true, not_false_iff, false_implies, true_implies, true_and, and_true, forall_eq, forall_const, eq_self, mb_e10, mb_e01, mb_e02, mb_e03, mb_e04, mb_e05, mb_e06, mb_e07, mb_l00, mb_l02, mb_g50, mb_g60, mb_e10, mb_e12, mb_e13, mb_e14, mb_e15, mb_e16, mb_e17, mb_l10, mb_l12, mb_g51, mb_g61, mb_e20, mb_e21, mb_e23, mb_e24, mb_e25, mb_e26, mb_e27, mb_l20, mb_l22, mb_g52, mb_g62, mb_e30, mb_e31, mb_e32, mb_e34, mb_e35, mb_e36, mb_e37, mb_l30, mb_l32, mb_g53, mb_g63, mb_e40, mb_e41, mb_e42, mb_e43, mb_e45, mb_e46, mb_e47, mb_l40, mb_l42, mb_g54, mb_g64, mb_e50, mb_e51, mb_e52, mb_e53, mb_e54, mb_e56, mb_e57, mb_l50, mb_l52, mb_g55, mb_g65, mb_e60, mb_e61, mb_e62, mb_e63, mb_e64, mb_e65, mb_e67, mb_l60, mb_l62, mb_g56, mb_g66, mb_e70, mb_e71, mb_e72, mb_e73, mb_e74, mb_e75, mb_e76, mb_l70, mb_l72, mb_g57, mb_g67, kk]
      exact K
    · refine ⟨rev, upd sl (cur * 2) arg, -1, mb_V_rf, mb_set H (q := 0) (Or.inl rfl) rfl harg, Or.inl rfl, fset _ 0 _ (Or.inl rfl) rfl, ?_⟩
      intro path p st pcs regs plen pop px py post K
      simp (disch := omega) only [wpX_act, nI_clamp, vp_in_nI, nI_1, nI_add, mb_lt_t, mb_lt_f, mb_le_t, mb_le_f, mb_ne, mb_lt0, mb_le0, mb_m1, mb_m1l, mb_m1g, mb_m1n, mb_x2, mb_x4, mb_x32, mb_lt_4, mb_le_4, mb_ge_4, mb_gt_4, mb_le_3, mb_gt_3, mb_le_7, mb_gt_7, mb_lt_32, mb_ge_32, mb_lt_128, mb_ge_128, mb_ge_1, mb_lt_1, mb_ge_1f, mb_lt_1t, not_true, not_false_iff, false_implies, true_implies, true_and, and_true, forall_eq, forall_const, eq_self, mb_e10, mb_e01, mb_e02, mb_e03, mb_e04, mb_e05, mb_e06, mb_e07, mb_l00, mb_l02, mb_g50, mb_g60, mb_e10, mb_e12, mb_e13, mb_e14, mb_e15, mb_e16, mb_e17, mb_l10, mb_l12, mb_g51, mb_g61, mb_e20, mb_e21, mb_e23, mb_e24, mb_e25, mb_e26, mb_e27, mb_l20, mb_l22, mb_g52, mb_g62, mb_e30, mb_e31, mb_e32, mb_e34, mb_e35, mb_e36, mb_e37, mb_l30, mb_l32, mb_g53, mb_g63, mb_e40, mb_e41, mb_e42, mb_e43, mb_e45, mb_e46, mb_e47, mb_l40, mb_l42, mb_g54, mb_g64, mb_e50, mb_e51, mb_e52, mb_e53, mb_e54, mb_e56, mb_e57, mb_l50, mb_l52, mb_g55, mb_g65, mb_e60, mb_e61, mb_e62, mb_e63, mb_e64, mb_e65, mb_e67, mb_l60, mb_l62, mb_g56, mb_g66, mb_e70, mb_e71, mb_e72, mb_e73, mb_e74, mb_e75, mb_e76, mb_l70, mb_l72, mb_g57, mb_g67, kk]
      exact K
    · refine ⟨rev, upd sl (cur * 2 + 1) arg, -1, mb_V_rf, mb_set H (q := 1) (Or.inr rfl) rfl harg, Or.inl rfl, fset _ 1 _ (Or.inr rfl) rfl, ?_⟩
      intro path p st pcs regs plen pop px py post K
      simp (disch := omega) only [wpX_act, nI_clamp, vp_in_nI, nI_1, nI_add, mb_lt_t, mb_lt_f, mb_le_t, mb_le_f, mb_ne, mb_lt0, mb_le0, mb_m1, mb_m1l, mb_m1g, mb_m1n, mb_x2, mb_x4, mb_x32, mb_lt_4, mb_le_4, mb_ge_4, mb_gt_4, mb_le_3, mb_gt_3, mb_le_7, mb_gt_7, mb_lt_32, mb_ge_32, mb_lt_128, mb_ge_128, mb_ge_1, mb_lt_1, mb_ge_1f, mb_lt_1t, not_true, not_false_iff, false_implies, true_implies, true_and, and_true, forall_eq, forall_const, eq_self, mb_e10, mb_e01, mb_e02, mb_e03, mb_e04, mb_e05, mb_e06, mb_e07, mb_l00, mb_l02, mb_g50, mb_g60, mb_e10, mb_e12, mb_e13, mb_e14, mb_e15, mb_e16, mb_e17, mb_l10, mb_l12, mb_g51, mb_g61, mb_e20, mb_e21, mb_e23, mb_e24, mb_e25, mb_e26, mb_e27, mb_l20, mb_l22, mb_g52, mb_g62, mb_e30, mb_e31, mb_e32, mb_e34, mb_e35, mb_e36, mb_e37, mb_l30, mb_l32, mb_g53, mb_g63, mb_e40, mb_e41, mb_e42, mb_e43, mb_e45, mb_e46, mb_e47, mb_l40, mb_l42, mb_g54, mb_g64, mb_e50, mb_e51, mb_e52, mb_e53, mb_e54, mb_e56, mb_e57, mb_l50, mb_l52, mb_g55, mb_g65, mb_e60, mb_e61, mb_e62, mb_e63, mb_e64, mb_e65, mb_e67, mb_l60, mb_l62, mb_g56, mb_g66, mb_e70, mb_e71, mb_e72, mb_e73, mb_e74, mb_e75, mb_e76, mb_l70, mb_l72, mb_g57, mb_g67, kk]
      exact K
    · refine ⟨rev, sl, -1, mb_V_rf, H, Or.inl rfl, fun S s => mb_Fr_hit s, ?_⟩
      intro path p st pcs regs plen pop px py post K
      simp (disch := omega) only [wpX_act, nI_clamp, vp_in_nI, nI_1, nI_add, mb_lt_t, mb_lt_f, mb_le_t, mb_le_f, mb_ne, mb_lt0, mb_le0, mb_m1, mb_m1l, mb_m1g, mb_m1n, mb_x2, mb_x4, mb_x32, mb_lt_4, mb_le_4, mb_ge_4, mb_gt_4, mb_le_3, mb_gt_3, mb_le_7, mb_gt_7, mb_lt_32, mb_ge_32, mb_lt_128, mb_ge_128, mb_ge_1, mb_lt_1, mb_ge_1f, mb_lt_1t, not_true, not_false_iff, false_implies, true_implies, true_and, and_true, forall_eq, forall_const, eq_self, mb_e10, mb_e01, mb_e02, mb_e03, mb_e04, mb_e05, mb_e06, mb_e07, mb_l00, mb_l02, mb_g50, mb_g60, mb_e10, mb_e12, mb_e13, mb_e14, mb_e15, mb_e16, mb_e17, mb_l10, mb_l12, mb_g51, mb_g61, mb_e20, mb_e21, mb_e23, mb_e24, mb_e25, mb_e26, mb_e27, mb_l20, mb_l22, mb_g52, mb_g62, mb_e30, mb_e31, mb_e32, mb_e34, mb_e35, mb_e36, mb_e37, mb_l30, mb_l32, mb_g53, mb_g63, mb_e40, mb_e41, mb_e42, mb_e43, mb_e45, mb_e46, mb_e47, mb_l40, mb_l42, mb_g54, mb_g64, mb_e50, mb_e51, mb_e52, mb_e53, mb_e54, mb_e56, mb_e57, mb_l50, mb_l52, mb_g55, mb_g65, mb_e60, mb_e61, mb_e62, mb_e63, mb_e64, mb_e65, mb_e67, mb_l60, mb_l62, mb_g56, mb_g66, mb_e70, mb_e71, mb_e72, mb_e73, mb_e74, mb_e75, mb_e76, mb_l70, mb_l72, mb_g57, mb_g67, kk]
      exact K
  · refine ⟨upd rev l 1, sl, -1, ⟨mb_rm_set rev l, fun i hi => pk_un (by omega)⟩, H, Or.inl rfl, fun S s => mb_Fr_hit s, ?_⟩
    intro path p st pcs regs plen pop px py post K
    simp (disch := omega) only [wpX_act, nI_clamp, vp_in_nI, nI_1, nI_add, mb_lt_t, mb_lt_f, mb_le_t, mb_le_f, mb_ne, mb_lt0, mb_le0, mb_m1, mb_m1l, mb_m1g, mb_m1n, mb_x2, mb_x4, mb_x32, mb_lt_4, mb_le_4, mb_ge_4, mb_gt_4, mb_le_3, mb_gt_3, mb_le_7, mb_gt_7, mb_lt_32, mb_ge_32, mb_lt_128, mb_ge_128, mb_ge_1, mb_lt_1, mb_ge_1f, mb_lt_1t, not_true, not_false_iff, false_implies, true_implies, true_and, and_true, forall_eq, forall_const, eq_self, mb_e10, kk, el]
    exact K
  · exact absurd kk k3
theorem mx_igo {post : Int32 → St2 → Prop} {m cur t h e k x : Nat} (hcur : cur < 32) (h1 : t < 32) (h2 : h < 4) (h3 : e < 4) (hk : k < 32)
    (k3 : kd cur = 3) (et : lk cur = nI t) (ee : hm t = nI e) (eh : hm cur = nI h) (rv : rev (mb_mx h e) = 0) (ex : path k = nI x)
    (cX : ∀ post' : Int32 → St2 → Prop, post' aX (nI n, nI p, nI nd, nI c1, par, rev, st, pcs, regs, plen, pop, px, py, kd1, hm1, lk1, ht1, sl1, path) → wpX_carry post' (nI n, nI p, nI nd, nI c, par, rev, st, pcs, regs, plen, pop, px, py, kd, hm, lk, (upd ht cur (ht cur + 1)), sl, path) arg (nI x) (nI e))
    (nf : -1 ≤ aX) (K : wX_invoke_25 post op m (nI t) aX (nI (k + 1)) (nI n) (nI p) (nI nd) (nI c1) par rev st pcs regs plen pop px py kd1 hm1 lk1 ht1 sl1 (upd path (k + 1) (nI e))) : wX_invoke_25 post op (m + 1) (nI cur) arg (nI k) (nI n) (nI p) (nI nd) (nI c) par rev st pcs regs plen pop px py kd hm lk ht sl path := by
  have hmx := mb_mx_lt (d := 4) h2 h3
  simp (disch := omega) only [wX_invoke_25, mx_mbE, nI_clamp, vp_in_nI, nI_1, nI_add, mb_lt_t, mb_lt_f, mb_le_t, mb_le_f, mb_ne, mb_lt0, mb_le0, mb_m1, mb_m1l, mb_m1g, mb_m1n, mb_x2, mb_x4, mb_x32, mb_lt_4, mb_le_4, mb_ge_4, mb_gt_4, mb_le_3, mb_gt_3, mb_le_7, mb_gt_7, mb_lt_32, mb_ge_32, mb_lt_128, mb_ge_128, mb_ge_1, mb_lt_1, mb_ge_1f, mb_lt_1t, not_true, not_false_iff, false_implies, true_implies, true_and, and_true, forall_eq, forall_const, eq_self, mb_e10, k3, et, ee, eh, rv, ex]
  refine cX _ ?_
  simp (disch := omega) only [wpX_isFault, nI_clamp, vp_in_nI, nI_1, nI_add, mb_lt_t, mb_lt_f, mb_le_t, mb_le_f, mb_ne, mb_lt0, mb_le0, mb_m1, mb_m1l, mb_m1g, mb_m1n, mb_x2, mb_x4, mb_x32, mb_lt_4, mb_le_4, mb_ge_4, mb_gt_4, mb_le_3, mb_gt_3, mb_le_7, mb_gt_7, mb_lt_32, mb_ge_32, mb_lt_128, mb_ge_128, mb_ge_1, mb_lt_1, mb_ge_1f, mb_lt_1t, not_true, not_false_iff, false_implies, true_implies, true_and, and_true, forall_eq, forall_const, eq_self, mb_e10, nf]
  exact K
theorem mx_ifl {post : Int32 → St2 → Prop} {m cur t h e k x : Nat} (hcur : cur < 32) (h1 : t < 32) (h2 : h < 4) (h3 : e < 4) (hk : k < 32)
    (k3 : kd cur = 3) (et : lk cur = nI t) (ee : hm t = nI e) (eh : hm cur = nI h) (rv : rev (mb_mx h e) = 0) (ex : path k = nI x)
    (cX : ∀ post' : Int32 → St2 → Prop, post' (-4) (nI n, nI p, nI nd, nI c1, par, rev, st, pcs, regs, plen, pop, px, py, kd1, hm1, lk1, ht1, sl1, path) → wpX_carry post' (nI n, nI p, nI nd, nI c, par, rev, st, pcs, regs, plen, pop, px, py, kd, hm, lk, (upd ht cur (ht cur + 1)), sl, path) arg (nI x) (nI e))
    (K : post (-4) (nI n, nI p, nI nd, nI c1, par, rev, st, pcs, regs, plen, pop, px, py, kd1, hm1, lk1, ht1, sl1, path)) : wX_invoke_25 post op (m + 1) (nI cur) arg (nI k) (nI n) (nI p) (nI nd) (nI c) par rev st pcs regs plen pop px py kd hm lk ht sl path := by
  have hmx := mb_mx_lt (d := 4) h2 h3
  have nf : ¬ ((-1 : Int32) ≤ -4) := by decide
  simp (disch := omega) only [wX_invoke_25, mx_mbE, nI_clamp, vp_in_nI, nI_1, nI_add, mb_lt_t, mb_lt_f, mb_le_t, mb_le_f, mb_ne, mb_lt0, mb_le0, mb_m1, mb_m1l, mb_m1g, mb_m1n, mb_x2, mb_x4, mb_x32, mb_lt_4, mb_le_4, mb_ge_4, mb_gt_4, mb_le_3, mb_gt_3, mb_le_7, mb_gt_7, mb_lt_32, mb_ge_32, mb_lt_128, mb_ge_128, mb_ge_1, mb_lt_1, mb_ge_1f, mb_lt_1t, not_true, not_false_iff, false_implies, true_implies, true_and, and_true, forall_eq, forall_const, eq_self, mb_e10, k3, et, ee, eh, rv, ex]
  refine cX _ ?_
  simp (disch := omega) only [wpX_isFault, nI_clamp, vp_in_nI, nI_1, nI_add, mb_lt_t, mb_lt_f, mb_le_t, mb_le_f, mb_ne, mb_lt0, mb_le0, mb_m1, mb_m1l, mb_m1g, mb_m1n, mb_x2, mb_x4, mb_x32, mb_lt_4, mb_le_4, mb_ge_4, mb_gt_4, mb_le_3, mb_gt_3, mb_le_7, mb_gt_7, mb_lt_32, mb_ge_32, mb_lt_128, mb_ge_128, mb_ge_1, mb_lt_1, mb_ge_1f, mb_lt_1t, not_true, not_false_iff, false_implies, true_implies, true_and, and_true, forall_eq, forall_const, eq_self, mb_e10, nf]
  exact K
theorem mx_irv {post : Int32 → St2 → Prop} {m cur t h e k : Nat} (hcur : cur < 32) (h1 : t < 32) (h2 : h < 4) (h3 : e < 4) (hk : k < 32)
    (k3 : kd cur = 3) (et : lk cur = nI t) (ee : hm t = nI e) (eh : hm cur = nI h) (rv : ¬ rev (mb_mx h e) = 0)
    (K : post (-3) (nI n, nI p, nI nd, nI c, par, rev, st, pcs, regs, plen, pop, px, py, kd, hm, lk, ht, sl, path)) : wX_invoke_25 post op (m + 1) (nI cur) arg (nI k) (nI n) (nI p) (nI nd) (nI c) par rev st pcs regs plen pop px py kd hm lk ht sl path := by
  have hmx := mb_mx_lt (d := 4) h2 h3
  simp (disch := omega) only [wX_invoke_25, mx_mbE, nI_clamp, vp_in_nI, nI_1, nI_add, mb_lt_t, mb_lt_f, mb_le_t, mb_le_f, mb_ne, mb_lt0, mb_le0, mb_m1, mb_m1l, mb_m1g, mb_m1n, mb_x2, mb_x4, mb_x32, mb_lt_4, mb_le_4, mb_ge_4, mb_gt_4, mb_le_3, mb_gt_3, mb_le_7, mb_gt_7, mb_lt_32, mb_ge_32, mb_lt_128, mb_ge_128, mb_ge_1, mb_lt_1, mb_ge_1f, mb_lt_1t, not_true, not_false_iff, false_implies, true_implies, true_and, and_true, forall_eq, forall_const, eq_self, mb_e10, k3, et, ee, eh, rv]
  exact K
theorem mx_iac {post : Int32 → St2 → Prop} {m cur k : Nat} (hcur : cur < 32) (hk : k < 32) (k3 : ¬ kd cur = 3)
    (K : wX_invoke_142 post op (nI cur) arg (nI k) (nI n) (nI p) (nI nd) (nI c) par rev st pcs regs plen pop px py kd hm lk ht sl path) : wX_invoke_25 post op (m + 1) (nI cur) arg (nI k) (nI n) (nI p) (nI nd) (nI c) par rev st pcs regs plen pop px py kd hm lk ht sl path := by
  simp (disch := omega) only [wX_invoke_25, nI_clamp, vp_in_nI, nI_1, nI_add, mb_lt_t, mb_lt_f, mb_le_t, mb_le_f, mb_ne, mb_lt0, mb_le0, mb_m1, mb_m1l, mb_m1g, mb_m1n, mb_x2, mb_x4, mb_x32, mb_lt_4, mb_le_4, mb_ge_4, mb_gt_4, mb_le_3, mb_gt_3, mb_le_7, mb_gt_7, mb_lt_32, mb_ge_32, mb_lt_128, mb_ge_128, mb_ge_1, mb_lt_1, mb_ge_1f, mb_lt_1t, not_true, not_false_iff, false_implies, true_implies, true_and, and_true, forall_eq, forall_const, eq_self, mb_e10, k3]
  exact K
theorem mb_pm (k : Nat) : nI k - 1 = nI k + -1 := Int32.sub_eq_add_neg _ _
/-- an invocation from the object cur on -/
theorem mb_inv (hop : op = 2 ∨ op = 3 ∨ op = 4 ∨ op = 5 ∨ op = 6) : ∀ (M cur c : Nat) (kd hm lk ht sl path : Nat → Int32) (arg : Int32) (k : Nat) (g : Nat → Nat), cur < M → cur < c → hm cur = nI (g k) →
    mb_H n nd c par kd hm lk sl → mb_rf c hm (nI (g k)) arg → cur + k ≤ 31 → mb_W par nd k g path →
    ∃ (c' : Nat) (kd' hm' lk' ht' sl' : Nat → Int32) (rev' path' : Nat → Int32) (rX : Int32), mb_H n nd c' par kd' hm' lk' sl' ∧ mb_E c kd hm lk c' kd' hm' lk' ∧ mb_V nd rev rev' ∧ mb_A c' hm' (nI (g 0)) rX ∧
      (∀ S, mb_cl par rev nd S → S (nI (g k)) → mb_Fr S c hm ht sl ht' sl') ∧
      (∀ (p : Nat) (st pcs regs plen pop px py : Nat → Int32) (post : Int32 → St2 → Prop), post rX (nI n, nI p, nI nd, nI c', par, rev', st, pcs, regs, plen, pop, px, py, kd', hm', lk', ht', sl', path') → ∀ m, cur < m → wX_invoke_25 post op m (nI cur) arg (nI k) (nI n) (nI p) (nI nd) (nI c) par rev st pcs regs plen pop px py kd hm lk ht sl path) := by
  intro M
  induction M with
  | zero => intro cur c kd hm lk ht sl path arg k g h; omega
  | succ M ih =>
    intro cur c kd hm lk ht sl path arg k g hM hcur hcg H harg hk W
    have hn : n ≤ 32 := H.2.1
    have hcn : c ≤ n := H.1
    have hnd : nd ≤ 4 := H.2.2.2.1
    have o := mb_H_ob H hcur
    obtain ⟨x1, ex⟩ := W.1 k (by omega)
    by_cases k3 : kd cur = 3
    · obtain ⟨h, t, e, hh, eh, h1, et, hh', ee, had, -⟩ := mb_fw o k3
      have hg : h = g k := (nI_eq (by omega) (by omega)).mp (eh.symm.trans hcg)
      subst hg
      have hmx := mb_mx_lt (d := 4) (show g k < 4 by omega) (show e < 4 by omega)
      by_cases rv : rev (mb_mx (g k) e) = 0
      · obtain ⟨c1, kd1, hm1, lk1, ht1, sl1, aX, H1, E1, F1, hA, cX⟩ := mb_carry H harg x1 hh' had (upd ht cur (ht cur + 1))
        have hc1 : c1 ≤ 32 := Nat.le_trans H1.1 H1.2.1
        have hcc : c ≤ c1 := E1.1
        rcases hA with r1 | rfl
        · obtain ⟨g', eg, eg0, W'⟩ : ∃ g' : Nat → Nat, g' (k + 1) = e ∧ g' 0 = g 0 ∧ mb_W par nd (k + 1) g' (upd path (k + 1) (nI e)) :=
            ⟨fun i => if i = k + 1 then e else g i, by simp only [if_true], by simp only [if_neg (show ¬ 0 = k + 1 by omega)], mb_W_s W hh' had⟩
          obtain ⟨c', kd', hm', lk', ht', sl', rev', path', rX, H2, E2, V2, A2, F2, iX⟩ := ih t c1 kd1 hm1 lk1 ht1 sl1 _ aX (k + 1) g' (by omega) (by omega) (by rw [eg, (E1.2 t (by omega)).2.1]; exact ee) H1 (by rw [eg]; exact r1) (by omega) W'
          rw [eg0] at A2
          rw [eg] at F2
          refine ⟨c', kd', hm', lk', ht', sl', rev', path', rX, H2, mb_E_tr E1 E2, V2, A2, ?_, ?_⟩
          · intro S cl s
            have s2 : S (nI e) := (cl _ _ x1 hh' had s).resolve_left (fun z => z rv)
            exact mb_Fr_tr (mb_Fr_tr (mb_Fr_hit (by rw [hcg]; exact s)) (mb_E_rf (kd := kd) (lk := lk)) (F1 S)) E1 (F2 S cl s2)
          · intro p st pcs regs plen pop px py post K m hm0
            obtain ⟨m, rfl⟩ : ∃ q, m = q + 1 := ⟨m - 1, by omega⟩
            exact mx_igo (by omega) (by omega) (by omega) (by omega) (by omega) k3 et ee eh rv ex (fun post' K' => cX p rev st pcs regs plen pop px py path post' K') (mb_rf_le r1 hc1) (iX p st pcs regs plen pop px py post K m (by omega))
        · refine ⟨c1, kd1, hm1, lk1, ht1, sl1, rev, path, -4, H1, E1, mb_V_rf, Or.inr ⟨3, by omega, by omega, by decide⟩, ?_, ?_⟩
          · intro S cl s
            exact mb_Fr_tr (mb_Fr_hit (by rw [hcg]; exact s)) (mb_E_rf (kd := kd) (lk := lk)) (F1 S)
          · intro p st pcs regs plen pop px py post K m hm0
            obtain ⟨m, rfl⟩ : ∃ q, m = q + 1 := ⟨m - 1, by omega⟩
            exact mx_ifl (by omega) (by omega) (by omega) (by omega) (by omega) k3 et ee eh rv ex (fun post' K' => cX p rev st pcs regs plen pop px py path post' K') K
      · refine ⟨c, kd, hm, lk, ht, sl, rev, path, -3, H, mb_E_rf, mb_V_rf, Or.inr ⟨2, by omega, by omega, by decide⟩, fun S _ _ => mb_Fr_rf, ?_⟩
        intro p st pcs regs plen pop px py post K m hm0
        obtain ⟨m, rfl⟩ : ∃ q, m = q + 1 := ⟨m - 1, by omega⟩
        exact mx_irv (by omega) (by omega) (by omega) (by omega) (by omega) k3 et ee eh rv K
    · obtain ⟨rev', sl1, res, V1, H1, r1, F1, aX⟩ := mb_act H hcur k3 (by rw [hcg]; exact harg) hop rev ht
      rw [hcg] at r1
      obtain ⟨c', kd', hm', lk', ht', sl', rX, H2, E2, F2, A2, iX⟩ := mb_back (rev := rev') k c kd hm lk (upd ht cur (ht cur + 1)) sl1 res H1 r1 W (by omega)
      refine ⟨c', kd', hm', lk', ht', sl', rev', path, rX, H2, E2, V1, A2, ?_, ?_⟩
      · intro S cl s
        exact mb_Fr_tr (F1 S (by rw [hcg]; exact s)) (mb_E_rf (kd := kd) (lk := lk)) (F2 S)
      · intro p st pcs regs plen pop px py post K m hm0
        obtain ⟨m, rfl⟩ : ∃ q, m = q + 1 := ⟨m - 1, by omega⟩
        refine mx_iac (by omega) (by omega) k3 ?_
        refine aX path p st pcs regs plen pop px py _ ?_
        refine nm_r (mb_pm k) ?_
        exact ⟨k + 1, iX p st pcs regs plen pop px py _ K (k + 1) (by omega)⟩
/-- INVOKE -/
theorem mb_invoke (H : mb_H n nd c par kd hm lk sl) (hop : op = 2 ∨ op = 3 ∨ op = 4 ∨ op = 5 ∨ op = 6) {r : Int32} {d : Nat} (hr : mb_rf c hm (nI d) r) (hd : d < nd) (harg : mb_rf c hm (nI d) arg) (rev ht path : Nat → Int32) :
    ∃ (c' : Nat) (kd' hm' lk' ht' sl' : Nat → Int32) (rev' path' : Nat → Int32) (rX : Int32), mb_H n nd c' par kd' hm' lk' sl' ∧ mb_E c kd hm lk c' kd' hm' lk' ∧ mb_V nd rev rev' ∧ mb_A c' hm' (nI d) rX ∧
      (∀ S, mb_cl par rev nd S → S (nI d) → mb_Fr S c hm ht sl ht' sl') ∧
      (∀ (p : Nat) (st pcs regs plen pop px py : Nat → Int32) (post : Int32 → St2 → Prop), post rX (nI n, nI p, nI nd, nI c', par, rev', st, pcs, regs, plen, pop, px, py, kd', hm', lk', ht', sl', path') → wpX_invoke post (nI n, nI p, nI nd, nI c, par, rev, st, pcs, regs, plen, pop, px, py, kd, hm, lk, ht, sl, path) (nI d) r op arg) := by
  have hn : n ≤ 32 := H.2.1
  have hcn : c ≤ n := H.1
  rcases hr with rfl | ⟨j, hj, rfl, ej⟩
  · refine ⟨c, kd, hm, lk, ht, sl, rev, path, -2, H, mb_E_rf, mb_V_rf, Or.inr ⟨1, by omega, by omega, by decide⟩, fun S _ _ => mb_Fr_rf, ?_⟩
    intro p st pcs regs plen pop px py post K
    exact br_t rfl K
  · obtain ⟨c', kd', hm', lk', ht', sl', rev', path', rX, H2, E2, V2, A2, F2, iX⟩ := mb_inv (rev := rev) hop (j + 1) j c kd hm lk ht sl _ arg 0 _ (by omega) hj ej H harg (by omega) (mb_W_0 (par := par) (path := path) hd)
    refine ⟨c', kd', hm', lk', ht', sl', rev', path', rX, H2, E2, V2, A2, F2, ?_⟩
    intro p st pcs regs plen pop px py post K
    refine br_f (mb_n1 (by omega)) (nm_e ?_)
    exact ⟨j + 1, iX p st pcs regs plen pop px py post K (j + 1) (by omega)⟩
end
end
section
section
variable {n p nd c : Nat} {par rev st pcs regs plen pop px py kd hm lk ht sl path : Nat → Int32}
theorem mb_o8 : ∀ o : Nat, o < 8 → (nI o = 0 ∨ nI o = 1 ∨ nI o = 2 ∨ nI o = 3 ∨ nI o = 4 ∨ nI o = 5 ∨ nI o = 6 ∨ nI o = 7) := by decide
theorem mb_neg : ∀ e : Nat, e ≤ 3 → (-1 : Int32) - (-1 - nI e) = nI e := by decide
theorem mb_nle : ∀ e : Nat, e ≤ 3 → 1 ≤ e → ¬ ((-1 : Int32) ≤ -1 - nI e) := by decide
theorem mx_ok {post : Int32 → St2 → Prop} {x : Nat} {r : Int32} (h : x < 16) (nf : -1 ≤ r) (K : post r (nI n, nI p, nI nd, nI c, par, rev, st, pcs, (upd regs x r), plen, pop, px, py, kd, hm, lk, ht, sl, path)) : wX_execute_139 post (nI x) r (nI n) (nI p) (nI nd) (nI c) par rev st pcs regs plen pop px py kd hm lk ht sl path := by
  simp (disch := omega) only [wX_execute_139, wpX_isFault, nI_clamp, vp_in_nI, nI_1, nI_add, mb_lt_t, mb_lt_f, mb_le_t, mb_le_f, mb_ne, mb_lt0, mb_le0, mb_m1, mb_m1l, mb_m1g, mb_m1n, mb_x2, mb_x4, mb_x32, mb_lt_4, mb_le_4, mb_ge_4, mb_gt_4, mb_le_3, mb_gt_3, mb_le_7, mb_gt_7, mb_lt_32, mb_ge_32, mb_lt_128, mb_ge_128, mb_ge_1, mb_lt_1, mb_ge_1f, mb_lt_1t, not_true, not_false_iff, false_implies, true_implies, true_and, and_true, forall_eq, forall_const, eq_self, mb_e10, nf]
  exact K
theorem mx_fl {post : Int32 → St2 → Prop} {x : Int32} {r : Int32} (nf : ¬ -1 ≤ r) (K : post r (nI n, nI p, nI nd, nI c, par, rev, st, pcs, regs, plen, pop, px, py, kd, hm, lk, ht, sl, path)) : wX_execute_139 post x r (nI n) (nI p) (nI nd) (nI c) par rev st pcs regs plen pop px py kd hm lk ht sl path := by
  simp (disch := omega) only [wX_execute_139, wpX_isFault, nI_clamp, vp_in_nI, nI_1, nI_add, mb_lt_t, mb_lt_f, mb_le_t, mb_le_f, mb_ne, mb_lt0, mb_le0, mb_m1, mb_m1l, mb_m1g, mb_m1n, mb_x2, mb_x4, mb_x32, mb_lt_4, mb_le_4, mb_ge_4, mb_gt_4, mb_le_3, mb_gt_3, mb_le_7, mb_gt_7, mb_lt_32, mb_ge_32, mb_lt_128, mb_ge_128, mb_ge_1, mb_lt_1, mb_ge_1f, mb_lt_1t, not_true, not_false_iff, false_implies, true_implies, true_and, and_true, forall_eq, forall_const, eq_self, mb_e10, nf]
  exact K
theorem mx_get {post : Int32 → St2 → Prop} {d x y : Nat} {op r rX : Int32} {c' : Nat} {kd' hm' lk' ht' sl' rev' path' : Nat → Int32} (hop : op = 2 ∨ op = 3) (hd : d < 4) (h1 : x < 4) (h2 : y < 4) (er : regs (d * 4 + y) = r)
    (iX : ∀ post' : Int32 → St2 → Prop, post' rX (nI n, nI p, nI nd, nI c', par, rev', st, pcs, regs, plen, pop, px, py, kd', hm', lk', ht', sl', path') → wpX_invoke post' (nI n, nI p, nI nd, nI c, par, rev, st, pcs, regs, plen, pop, px, py, kd, hm, lk, ht, sl, path) (nI d) r op (-1)) (K : wX_execute_139 post (nI (d * 4 + x)) rX (nI n) (nI p) (nI nd) (nI c') par rev' st pcs regs plen pop px py kd' hm' lk' ht' sl' path') :
    wpX_execute post (nI n, nI p, nI nd, nI c, par, rev, st, pcs, regs, plen, pop, px, py, kd, hm, lk, ht, sl, path) (nI d) op (nI x) (nI y) := by
  rcases hop with rfl | rfl
  · simp (disch := omega) only [wpX_execute, wX_execute_84, nI_clamp, vp_in_nI, nI_1, nI_add, mb_lt_t, mb_lt_f, mb_le_t, mb_le_f, mb_ne, mb_lt0, mb_le0, mb_m1, mb_m1l, mb_m1g, mb_m1n, mb_x2, mb_x4, mb_x32, mb_lt_4, mb_le_4, mb_ge_4, mb_gt_4, mb_le_3, mb_gt_3, mb_le_7, mb_gt_7, mb_lt_32, mb_ge_32, mb_lt_128, mb_ge_128, mb_ge_1, mb_lt_1, mb_ge_1f, mb_lt_1t, not_true, not_false_iff, false_implies, true_implies, true_and, and_true, forall_eq, forall_const, eq_self, mb_e10, mb_e01, mb_e02, mb_e03, mb_e04, mb_e05, mb_e06, mb_e07, mb_l00, mb_l02, mb_g50, mb_g60, mb_e10, mb_e12, mb_e13, mb_e14, mb_e15, mb_e16, mb_e17, mb_l10, mb_l12, mb_g51, mb_g61, mb_e20, mb_e21, mb_e23, mb_e24, mb_e25, mb_e26, mb_e27, mb_l20, mb_l22, mb_g52, mb_g62, mb_e30, mb_e31, mb_e32, mb_e34, mb_e35, mb_e36, mb_e37, mb_l30, mb_l32, mb_g53, mb_g63, mb_e40, mb_e41, mb_e42, mb_e43, mb_e45, mb_e46, mb_e47, mb_l40, mb_l42, mb_g54, mb_g64, mb_e50, mb_e51, mb_e52, mb_e53, mb_e54, mb_e56, mb_e57, mb_l50, mb_l52, mb_g55, mb_g65, mb_e60, mb_e61, mb_e62, mb_e63, mb_e64, mb_e65, mb_e67, mb_l60, mb_l62, mb_g56, mb_g66, mb_e70, mb_e71, mb_e72, mb_e73, mb_e74, mb_e75, mb_e76, mb_l70, mb_l72, mb_g57, mb_g67, er]
    exact iX _ K
  · simp (disch := omega) only [wpX_execute, wX_execute_84, nI_clamp, vp_in_nI, nI_1, nI_add, mb_lt_t, mb_lt_f, mb_le_t, mb_le_f, mb_ne, mb_lt0, mb_le0, mb_m1, mb_m1l, mb_m1g, mb_m1n, mb_x2, mb_x4, mb_x32, mb_lt_4, mb_le_4, mb_ge_4, mb_gt_4, mb_le_3, mb_gt_3, mb_le_7, mb_gt_7, mb_lt_32, mb_ge_32, mb_lt_128, mb_ge_128, mb_ge_1, mb_lt_1, mb_ge_1f, mb_lt_1t, not_true, not_false_iff, false_implies, true_implies, true_and, and_true, forall_eq, forall_const, eq_self, mb_e10, mb_e01, mb_e02, mb_e03, mb_e04, mb_e05, mb_e06, mb_e07, mb_l00, mb_l02, mb_g50, mb_g60, mb_e10, mb_e12, mb_e13, mb_e14, mb_e15, mb_e16, mb_e17, mb_l10, mb_l12, mb_g51, mb_g61, mb_e20, mb_e21, mb_e23, mb_e24, mb_e25, mb_e26, mb_e27, mb_l20, mb_l22, mb_g52, mb_g62, mb_e30, mb_e31, mb_e32, mb_e34, mb_e35, mb_e36, mb_e37, mb_l30, mb_l32, mb_g53, mb_g63, mb_e40, mb_e41, mb_e42, mb_e43, mb_e45, mb_e46, mb_e47, mb_l40, mb_l42, mb_g54, mb_g64, mb_e50, mb_e51, mb_e52, mb_e53, mb_e54, mb_e56, mb_e57, mb_l50, mb_l52, mb_g55, mb_g65, mb_e60, mb_e61, mb_e62, mb_e63, mb_e64, mb_e65, mb_e67, mb_l60, mb_l62, mb_g56, mb_g66, mb_e70, mb_e71, mb_e72, mb_e73, mb_e74, mb_e75, mb_e76, mb_l70, mb_l72, mb_g57, mb_g67, er]
    exact iX _ K
theorem mx_put {post : Int32 → St2 → Prop} {d x y : Nat} {op r a rX : Int32} {c' : Nat} {kd' hm' lk' ht' sl' rev' path' : Nat → Int32} (hop : op = 4 ∨ op = 5) (hd : d < 4) (h1 : x < 4) (h2 : y < 4) (er : regs (d * 4 + x) = r) (ea : regs (d * 4 + y) = a)
    (iX : ∀ post' : Int32 → St2 → Prop, post' rX (nI n, nI p, nI nd, nI c', par, rev', st, pcs, regs, plen, pop, px, py, kd', hm', lk', ht', sl', path') → wpX_invoke post' (nI n, nI p, nI nd, nI c, par, rev, st, pcs, regs, plen, pop, px, py, kd, hm, lk, ht, sl, path) (nI d) r op a) (K : post rX (nI n, nI p, nI nd, nI c', par, rev', st, pcs, regs, plen, pop, px, py, kd', hm', lk', ht', sl', path')) :
    wpX_execute post (nI n, nI p, nI nd, nI c, par, rev, st, pcs, regs, plen, pop, px, py, kd, hm, lk, ht, sl, path) (nI d) op (nI x) (nI y) := by
  rcases hop with rfl | rfl
  · simp (disch := omega) only [wpX_execute, wX_execute_103, nI_clamp, vp_in_nI, nI_1, nI_add, mb_lt_t, mb_lt_f, mb_le_t, mb_le_f, mb_ne, mb_lt0, mb_le0, mb_m1, mb_m1l, mb_m1g, mb_m1n, mb_x2, mb_x4, mb_x32, mb_lt_4, mb_le_4, mb_ge_4, mb_gt_4, mb_le_3, mb_gt_3, mb_le_7, mb_gt_7, mb_lt_32, mb_ge_32, mb_lt_128, mb_ge_128, mb_ge_1, mb_lt_1, mb_ge_1f, mb_lt_1t, not_true, not_false_iff, false_implies, true_implies, true_and, and_true, forall_eq, forall_const, eq_self, mb_e10, mb_e01, mb_e02, mb_e03, mb_e04, mb_e05, mb_e06, mb_e07, mb_l00, mb_l02, mb_g50, mb_g60, mb_e10, mb_e12, mb_e13, mb_e14, mb_e15, mb_e16, mb_e17, mb_l10, mb_l12, mb_g51, mb_g61, mb_e20, mb_e21, mb_e23, mb_e24, mb_e25, mb_e26, mb_e27, mb_l20, mb_l22, mb_g52, mb_g62, mb_e30, mb_e31, mb_e32, mb_e34, mb_e35, mb_e36, mb_e37, mb_l30, mb_l32, mb_g53, mb_g63, mb_e40, mb_e41, mb_e42, mb_e43, mb_e45, mb_e46, mb_e47, mb_l40, mb_l42, mb_g54, mb_g64, mb_e50, mb_e51, mb_e52, mb_e53, mb_e54, mb_e56, mb_e57, mb_l50, mb_l52, mb_g55, mb_g65, mb_e60, mb_e61, mb_e62, mb_e63, mb_e64, mb_e65, mb_e67, mb_l60, mb_l62, mb_g56, mb_g66, mb_e70, mb_e71, mb_e72, mb_e73, mb_e74, mb_e75, mb_e76, mb_l70, mb_l72, mb_g57, mb_g67, er, ea]
    exact iX _ K
  · simp (disch := omega) only [wpX_execute, wX_execute_103, nI_clamp, vp_in_nI, nI_1, nI_add, mb_lt_t, mb_lt_f, mb_le_t, mb_le_f, mb_ne, mb_lt0, mb_le0, mb_m1, mb_m1l, mb_m1g, mb_m1n, mb_x2, mb_x4, mb_x32, mb_lt_4, mb_le_4, mb_ge_4, mb_gt_4, mb_le_3, mb_gt_3, mb_le_7, mb_gt_7, mb_lt_32, mb_ge_32, mb_lt_128, mb_ge_128, mb_ge_1, mb_lt_1, mb_ge_1f, mb_lt_1t, not_true, not_false_iff, false_implies, true_implies, true_and, and_true, forall_eq, forall_const, eq_self, mb_e10, mb_e01, mb_e02, mb_e03, mb_e04, mb_e05, mb_e06, mb_e07, mb_l00, mb_l02, mb_g50, mb_g60, mb_e10, mb_e12, mb_e13, mb_e14, mb_e15, mb_e16, mb_e17, mb_l10, mb_l12, mb_g51, mb_g61, mb_e20, mb_e21, mb_e23, mb_e24, mb_e25, mb_e26, mb_e27, mb_l20, mb_l22, mb_g52, mb_g62, mb_e30, mb_e31, mb_e32, mb_e34, mb_e35, mb_e36, mb_e37, mb_l30, mb_l32, mb_g53, mb_g63, mb_e40, mb_e41, mb_e42, mb_e43, mb_e45, mb_e46, mb_e47, mb_l40, mb_l42, mb_g54, mb_g64, mb_e50, mb_e51, mb_e52, mb_e53, mb_e54, mb_e56, mb_e57, mb_l50, mb_l52, mb_g55, mb_g65, mb_e60, mb_e61, mb_e62, mb_e63, mb_e64, mb_e65, mb_e67, mb_l60, mb_l62, mb_g56, mb_g66, mb_e70, mb_e71, mb_e72, mb_e73, mb_e74, mb_e75, mb_e76, mb_l70, mb_l72, mb_g57, mb_g67, er, ea]
    exact iX _ K
theorem mx_poke {post : Int32 → St2 → Prop} {d x y : Nat} {r rX : Int32} {c' : Nat} {kd' hm' lk' ht' sl' rev' path' : Nat → Int32} (hd : d < 4) (h1 : x < 4) (h2 : y < 4) (er : regs (d * 4 + x) = r)
    (iX : ∀ post' : Int32 → St2 → Prop, post' rX (nI n, nI p, nI nd, nI c', par, rev', st, pcs, regs, plen, pop, px, py, kd', hm', lk', ht', sl', path') → wpX_invoke post' (nI n, nI p, nI nd, nI c, par, rev, st, pcs, regs, plen, pop, px, py, kd, hm, lk, ht, sl, path) (nI d) r 6 (-1)) (K : post rX (nI n, nI p, nI nd, nI c', par, rev', st, pcs, regs, plen, pop, px, py, kd', hm', lk', ht', sl', path')) :
    wpX_execute post (nI n, nI p, nI nd, nI c, par, rev, st, pcs, regs, plen, pop, px, py, kd, hm, lk, ht, sl, path) (nI d) 6 (nI x) (nI y) := by
  simp (disch := omega) only [wpX_execute, nI_clamp, vp_in_nI, nI_1, nI_add, mb_lt_t, mb_lt_f, mb_le_t, mb_le_f, mb_ne, mb_lt0, mb_le0, mb_m1, mb_m1l, mb_m1g, mb_m1n, mb_x2, mb_x4, mb_x32, mb_lt_4, mb_le_4, mb_ge_4, mb_gt_4, mb_le_3, mb_gt_3, mb_le_7, mb_gt_7, mb_lt_32, mb_ge_32, mb_lt_128, mb_ge_128, mb_ge_1, mb_lt_1, mb_ge_1f, mb_lt_1t, not_true, not_false_iff, false_implies, true_implies, true_and, and_true, forall_eq, forall_const, eq_self, mb_e10, mb_e01, mb_e02, mb_e03, mb_e04, mb_e05, mb_e06, mb_e07, mb_l00, mb_l02, mb_g50, mb_g60, mb_e10, mb_e12, mb_e13, mb_e14, mb_e15, mb_e16, mb_e17, mb_l10, mb_l12, mb_g51, mb_g61, mb_e20, mb_e21, mb_e23, mb_e24, mb_e25, mb_e26, mb_e27, mb_l20, mb_l22, mb_g52, mb_g62, mb_e30, mb_e31, mb_e32, mb_e34, mb_e35, mb_e36, mb_e37, mb_l30, mb_l32, mb_g53, mb_g63, mb_e40, mb_e41, mb_e42, mb_e43, mb_e45, mb_e46, mb_e47, mb_l40, mb_l42, mb_g54, mb_g64, mb_e50, mb_e51, mb_e52, mb_e53, mb_e54, mb_e56, mb_e57, mb_l50, mb_l52, mb_g55, mb_g65, mb_e60, mb_e61, mb_e62, mb_e63, mb_e64, mb_e65, mb_e67, mb_l60, mb_l62, mb_g56, mb_g66, mb_e70, mb_e71, mb_e72, mb_e73, mb_e74, mb_e75, mb_e76, mb_l70, mb_l72, mb_g57, mb_g67, er]
  exact iX _ K
/-- one instruction -/
theorem mb_exec (I : mb_I n p nd c par pcs regs plen pop px py kd hm lk sl) {d o x y : Nat} (hd : d < nd) (h0 : o < 8) (h1 : x < 4) (h2 : y < 4) (rev st ht path : Nat → Int32) :
    ∃ (c' : Nat) (kd' hm' lk' ht' sl' : Nat → Int32) (rev' regs' path' : Nat → Int32) (rX : Int32) (e : Nat), mb_I n p nd c' par pcs regs' plen pop px py kd' hm' lk' sl' ∧ mb_E c kd hm lk c' kd' hm' lk' ∧ mb_V nd rev rev' ∧ e ≤ 3 ∧ ((e = 0 ∧ -1 ≤ rX) ∨ (1 ≤ e ∧ rX = -1 - nI e)) ∧
      (∀ S, mb_cl par rev nd S → S (nI d) → mb_Fr S c hm ht sl ht' sl' ∧ mb_Fg S nd regs regs') ∧
      (∀ post : Int32 → St2 → Prop, post rX (nI n, nI p, nI nd, nI c', par, rev', st, pcs, regs', plen, pop, px, py, kd', hm', lk', ht', sl', path') → wpX_execute post (nI n, nI p, nI nd, nI c, par, rev, st, pcs, regs, plen, pop, px, py, kd, hm, lk, ht, sl, path) (nI d) (nI o) (nI x) (nI y)) := by
  obtain ⟨H, hn8, hp8, hp, hP, hR, hG⟩ := I
  have hn : n ≤ 32 := H.2.1
  have hcn : c ≤ n := H.1
  have hnd : nd ≤ 4 := H.2.2.2.1
  have rx := hR.1 d x hd h1
  have ry := hR.1 d y hd h2
  have eo := mb_o8 o h0
  generalize nI o = op at eo ⊢
  rcases eo with rfl | rfl | z | z | z | z | rfl | rfl
  · -- NEW
    by_cases hc : c < n
    · refine ⟨c + 1, upd kd c 1, upd hm c (nI d), upd lk c (-1), upd ht c 0, upd (upd sl (c * 2) (-1)) (c * 2 + 1) (-1), rev, upd regs (d * 4 + x) (nI c), path, nI c, 0,
        ⟨mb_mk H hc ⟨d, hd, pk_us, Or.inl ⟨pk_us, pk_us⟩⟩ (fun z => absurd z (by decide)), hn8, hp8, hp, hP, mb_R_set (mb_R_up hR (mb_mkE (kd := kd) (lk := lk) (k := 1) (l := -1))) hd h1 (Or.inr ⟨c, by omega, rfl, pk_us⟩), hG⟩, mb_mkE, mb_V_rf, by omega, Or.inl ⟨rfl, of_eq_true (mb_m1l (by omega))⟩, fun S _ s => ⟨mb_mkF, mb_Fg_set h1 s⟩, ?_⟩
      intro post K
      simp (disch := omega) only [wpX_execute, nI_clamp, vp_in_nI, nI_1, nI_add, mb_lt_t, mb_lt_f, mb_le_t, mb_le_f, mb_ne, mb_lt0, mb_le0, mb_m1, mb_m1l, mb_m1g, mb_m1n, mb_x2, mb_x4, mb_x32, mb_lt_4, mb_le_4, mb_ge_4, mb_gt_4, mb_le_3, mb_gt_3, mb_le_7, mb_gt_7, mb_lt_32, mb_ge_32, mb_lt_128, mb_ge_128, mb_ge_1, mb_lt_1, mb_ge_1f, mb_lt_1t, not_true, not_false_iff, false_implies, true_implies, true_and, and_true, forall_eq, forall_const, eq_self, mb_e10, mb_e01, mb_e02, mb_e03, mb_e04, mb_e05, mb_e06, mb_e07, mb_l00, mb_l02, mb_g50, mb_g60, mb_e10, mb_e12, mb_e13, mb_e14, mb_e15, mb_e16, mb_e17, mb_l10, mb_l12, mb_g51, mb_g61, mb_e20, mb_e21, mb_e23, mb_e24, mb_e25, mb_e26, mb_e27, mb_l20, mb_l22, mb_g52, mb_g62, mb_e30, mb_e31, mb_e32, mb_e34, mb_e35, mb_e36, mb_e37, mb_l30, mb_l32, mb_g53, mb_g63, mb_e40, mb_e41, mb_e42, mb_e43, mb_e45, mb_e46, mb_e47, mb_l40, mb_l42, mb_g54, mb_g64, mb_e50, mb_e51, mb_e52, mb_e53, mb_e54, mb_e56, mb_e57, mb_l50, mb_l52, mb_g55, mb_g65, mb_e60, mb_e61, mb_e62, mb_e63, mb_e64, mb_e65, mb_e67, mb_l60, mb_l62, mb_g56, mb_g66, mb_e70, mb_e71, mb_e72, mb_e73, mb_e74, mb_e75, mb_e76, mb_l70, mb_l72, mb_g57, mb_g67]
      exact mx_mk hc hn (mx_ok (by omega) (of_eq_true (mb_m1l (by omega))) K)
    · refine ⟨c, kd, hm, lk, ht, sl, rev, regs, path, -4, 3, ⟨H, hn8, hp8, hp, hP, hR, hG⟩, mb_E_rf, mb_V_rf, by omega, Or.inr ⟨by omega, by decide⟩, fun S _ s => ⟨mb_Fr_rf, mb_Fg_rf⟩, ?_⟩
      intro post K
      simp (disch := omega) only [wpX_execute, nI_clamp, vp_in_nI, nI_1, nI_add, mb_lt_t, mb_lt_f, mb_le_t, mb_le_f, mb_ne, mb_lt0, mb_le0, mb_m1, mb_m1l, mb_m1g, mb_m1n, mb_x2, mb_x4, mb_x32, mb_lt_4, mb_le_4, mb_ge_4, mb_gt_4, mb_le_3, mb_gt_3, mb_le_7, mb_gt_7, mb_lt_32, mb_ge_32, mb_lt_128, mb_ge_128, mb_ge_1, mb_lt_1, mb_ge_1f, mb_lt_1t, not_true, not_false_iff, false_implies, true_implies, true_and, and_true, forall_eq, forall_const, eq_self, mb_e10, mb_e01, mb_e02, mb_e03, mb_e04, mb_e05, mb_e06, mb_e07, mb_l00, mb_l02, mb_g50, mb_g60, mb_e10, mb_e12, mb_e13, mb_e14, mb_e15, mb_e16, mb_e17, mb_l10, mb_l12, mb_g51, mb_g61, mb_e20, mb_e21, mb_e23, mb_e24, mb_e25, mb_e26, mb_e27, mb_l20, mb_l22, mb_g52, mb_g62, mb_e30, mb_e31, mb_e32, mb_e34, mb_e35, mb_e36, mb_e37, mb_l30, mb_l32, mb_g53, mb_g63, mb_e40, mb_e41, mb_e42, mb_e43, mb_e45, mb_e46, mb_e47, mb_l40, mb_l42, mb_g54, mb_g64, mb_e50, mb_e51, mb_e52, mb_e53, mb_e54, mb_e56, mb_e57, mb_l50, mb_l52, mb_g55, mb_g65, mb_e60, mb_e61, mb_e62, mb_e63, mb_e64, mb_e65, mb_e67, mb_l60, mb_l62, mb_g56, mb_g66, mb_e70, mb_e71, mb_e72, mb_e73, mb_e74, mb_e75, mb_e76, mb_l70, mb_l72, mb_g57, mb_g67]
      exact mx_full (by omega) (by omega) (mx_fl (by decide) K)
  · -- MOV
    refine ⟨c, kd, hm, lk, ht, sl, rev, upd regs (d * 4 + x) (regs (d * 4 + y)), path, regs (d * 4 + y), 0, ⟨H, hn8, hp8, hp, hP, mb_R_set hR hd h1 ry, hG⟩, mb_E_rf, mb_V_rf, by omega, Or.inl ⟨rfl, mb_rf_le ry (by omega)⟩, fun S _ s => ⟨mb_Fr_rf, mb_Fg_set h1 s⟩, ?_⟩
    intro post K
    simp (disch := omega) only [wpX_execute, nI_clamp, vp_in_nI, nI_1, nI_add, mb_lt_t, mb_lt_f, mb_le_t, mb_le_f, mb_ne, mb_lt0, mb_le0, mb_m1, mb_m1l, mb_m1g, mb_m1n, mb_x2, mb_x4, mb_x32, mb_lt_4, mb_le_4, mb_ge_4, mb_gt_4, mb_le_3, mb_gt_3, mb_le_7, mb_gt_7, mb_lt_32, mb_ge_32, mb_lt_128, mb_ge_128, mb_ge_1, mb_lt_1, mb_ge_1f, mb_lt_1t, not_true, not_false_iff, false_implies, true_implies, true_and, and_true, forall_eq, forall_const, eq_self, mb_e10, mb_e01, mb_e02, mb_e03, mb_e04, mb_e05, mb_e06, mb_e07, mb_l00, mb_l02, mb_g50, mb_g60, mb_e10, mb_e12, mb_e13, mb_e14, mb_e15, mb_e16, mb_e17, mb_l10, mb_l12, mb_g51, mb_g61, mb_e20, mb_e21, mb_e23, mb_e24, mb_e25, mb_e26, mb_e27, mb_l20, mb_l22, mb_g52, mb_g62, mb_e30, mb_e31, mb_e32, mb_e34, mb_e35, mb_e36, mb_e37, mb_l30, mb_l32, mb_g53, mb_g63, mb_e40, mb_e41, mb_e42, mb_e43, mb_e45, mb_e46, mb_e47, mb_l40, mb_l42, mb_g54, mb_g64, mb_e50, mb_e51, mb_e52, mb_e53, mb_e54, mb_e56, mb_e57, mb_l50, mb_l52, mb_g55, mb_g65, mb_e60, mb_e61, mb_e62, mb_e63, mb_e64, mb_e65, mb_e67, mb_l60, mb_l62, mb_g56, mb_g66, mb_e70, mb_e71, mb_e72, mb_e73, mb_e74, mb_e75, mb_e76, mb_l70, mb_l72, mb_g57, mb_g67]
    exact mx_ok (by omega) (mb_rf_le ry (by omega)) K
  · -- GET0
    obtain ⟨c', kd', hm', lk', ht', sl', rev', path', rX, H2, E2, V2, A2, F2, iX⟩ := mb_invoke H (Or.inl z) ry hd (Or.inl rfl) rev ht path
    have hc2 : c' ≤ 32 := Nat.le_trans H2.1 H2.2.1
    rcases A2 with hr | ⟨e, a1, a2, rfl⟩
    · have hle := mb_rf_le hr hc2
      refine ⟨c', kd', hm', lk', ht', sl', rev', upd regs (d * 4 + x) rX, path', rX, 0, ⟨H2, hn8, hp8, hp, hP, mb_R_set (mb_R_up hR E2) hd h1 hr, hG⟩, E2, V2, by omega, Or.inl ⟨rfl, hle⟩, fun S cl s => ⟨F2 S cl s, mb_Fg_set h1 s⟩, ?_⟩
      intro post K
      exact mx_get (Or.inl z) (by omega) h1 h2 rfl (fun post' K' => iX p st pcs regs plen pop px py post' K') (mx_ok (by omega) hle K)
    · refine ⟨c', kd', hm', lk', ht', sl', rev', regs, path', -1 - nI e, e, ⟨H2, hn8, hp8, hp, hP, mb_R_up hR E2, hG⟩, E2, V2, a2, Or.inr ⟨a1, rfl⟩, fun S cl s => ⟨F2 S cl s, mb_Fg_rf⟩, ?_⟩
      intro post K
      exact mx_get (Or.inl z) (by omega) h1 h2 rfl (fun post' K' => iX p st pcs regs plen pop px py post' K') (mx_fl (mb_nle e a2 a1) K)
  · -- GET1
    obtain ⟨c', kd', hm', lk', ht', sl', rev', path', rX, H2, E2, V2, A2, F2, iX⟩ := mb_invoke H (Or.inr (Or.inl z)) ry hd (Or.inl rfl) rev ht path
    have hc2 : c' ≤ 32 := Nat.le_trans H2.1 H2.2.1
    rcases A2 with hr | ⟨e, a1, a2, rfl⟩
    · have hle := mb_rf_le hr hc2
      refine ⟨c', kd', hm', lk', ht', sl', rev', upd regs (d * 4 + x) rX, path', rX, 0, ⟨H2, hn8, hp8, hp, hP, mb_R_set (mb_R_up hR E2) hd h1 hr, hG⟩, E2, V2, by omega, Or.inl ⟨rfl, hle⟩, fun S cl s => ⟨F2 S cl s, mb_Fg_set h1 s⟩, ?_⟩
      intro post K
      exact mx_get (Or.inr z) (by omega) h1 h2 rfl (fun post' K' => iX p st pcs regs plen pop px py post' K') (mx_ok (by omega) hle K)
    · refine ⟨c', kd', hm', lk', ht', sl', rev', regs, path', -1 - nI e, e, ⟨H2, hn8, hp8, hp, hP, mb_R_up hR E2, hG⟩, E2, V2, a2, Or.inr ⟨a1, rfl⟩, fun S cl s => ⟨F2 S cl s, mb_Fg_rf⟩, ?_⟩
      intro post K
      exact mx_get (Or.inr z) (by omega) h1 h2 rfl (fun post' K' => iX p st pcs regs plen pop px py post' K') (mx_fl (mb_nle e a2 a1) K)
  · -- SET0
    obtain ⟨c', kd', hm', lk', ht', sl', rev', path', rX, H2, E2, V2, A2, F2, iX⟩ := mb_invoke H (Or.inr (Or.inr (Or.inl z))) rx hd ry rev ht path
    have hc2 : c' ≤ 32 := Nat.le_trans H2.1 H2.2.1
    rcases A2 with hr | ⟨e, a1, a2, rfl⟩
    · refine ⟨c', kd', hm', lk', ht', sl', rev', regs, path', rX, 0, ⟨H2, hn8, hp8, hp, hP, mb_R_up hR E2, hG⟩, E2, V2, by omega, Or.inl ⟨rfl, mb_rf_le hr hc2⟩, fun S cl s => ⟨F2 S cl s, mb_Fg_rf⟩, ?_⟩
      intro post K
      exact mx_put (Or.inl z) (by omega) h1 h2 rfl rfl (fun post' K' => iX p st pcs regs plen pop px py post' K') K
    · refine ⟨c', kd', hm', lk', ht', sl', rev', regs, path', -1 - nI e, e, ⟨H2, hn8, hp8, hp, hP, mb_R_up hR E2, hG⟩, E2, V2, a2, Or.inr ⟨a1, rfl⟩, fun S cl s => ⟨F2 S cl s, mb_Fg_rf⟩, ?_⟩
      intro post K
      exact mx_put (Or.inl z) (by omega) h1 h2 rfl rfl (fun post' K' => iX p st pcs regs plen pop px py post' K') K
  · -- SET1
    obtain ⟨c', kd', hm', lk', ht', sl', rev', path', rX, H2, E2, V2, A2, F2, iX⟩ := mb_invoke H (Or.inr (Or.inr (Or.inr (Or.inl z)))) rx hd ry rev ht path
    have hc2 : c' ≤ 32 := Nat.le_trans H2.1 H2.2.1
    rcases A2 with hr | ⟨e, a1, a2, rfl⟩
    · refine ⟨c', kd', hm', lk', ht', sl', rev', regs, path', rX, 0, ⟨H2, hn8, hp8, hp, hP, mb_R_up hR E2, hG⟩, E2, V2, by omega, Or.inl ⟨rfl, mb_rf_le hr hc2⟩, fun S cl s => ⟨F2 S cl s, mb_Fg_rf⟩, ?_⟩
      intro post K
      exact mx_put (Or.inr z) (by omega) h1 h2 rfl rfl (fun post' K' => iX p st pcs regs plen pop px py post' K') K
    · refine ⟨c', kd', hm', lk', ht', sl', rev', regs, path', -1 - nI e, e, ⟨H2, hn8, hp8, hp, hP, mb_R_up hR E2, hG⟩, E2, V2, a2, Or.inr ⟨a1, rfl⟩, fun S cl s => ⟨F2 S cl s, mb_Fg_rf⟩, ?_⟩
      intro post K
      exact mx_put (Or.inr z) (by omega) h1 h2 rfl rfl (fun post' K' => iX p st pcs regs plen pop px py post' K') K
  · -- POKE
    obtain ⟨c', kd', hm', lk', ht', sl', rev', path', rX, H2, E2, V2, A2, F2, iX⟩ := mb_invoke H (Or.inr (Or.inr (Or.inr (Or.inr rfl)))) rx hd (Or.inl rfl) rev ht path
    have hc2 : c' ≤ 32 := Nat.le_trans H2.1 H2.2.1
    rcases A2 with hr | ⟨e, a1, a2, rfl⟩
    · refine ⟨c', kd', hm', lk', ht', sl', rev', regs, path', rX, 0, ⟨H2, hn8, hp8, hp, hP, mb_R_up hR E2, hG⟩, E2, V2, by omega, Or.inl ⟨rfl, mb_rf_le hr hc2⟩, fun S cl s => ⟨F2 S cl s, mb_Fg_rf⟩, ?_⟩
      intro post K
      exact mx_poke (by omega) h1 h2 rfl (fun post' K' => iX p st pcs regs plen pop px py post' K') K
    · refine ⟨c', kd', hm', lk', ht', sl', rev', regs, path', -1 - nI e, e, ⟨H2, hn8, hp8, hp, hP, mb_R_up hR E2, hG⟩, E2, V2, a2, Or.inr ⟨a1, rfl⟩, fun S cl s => ⟨F2 S cl s, mb_Fg_rf⟩, ?_⟩
      intro post K
      exact mx_poke (by omega) h1 h2 rfl (fun post' K' => iX p st pcs regs plen pop px py post' K') K
  · -- DROP
    refine ⟨c, kd, hm, lk, ht, sl, rev, upd regs (d * 4 + x) (-1), path, -1, 0, ⟨H, hn8, hp8, hp, hP, mb_R_set hR hd h1 (Or.inl rfl), hG⟩, mb_E_rf, mb_V_rf, by omega, Or.inl ⟨rfl, by decide⟩, fun S _ s => ⟨mb_Fr_rf, mb_Fg_set h1 s⟩, ?_⟩
    intro post K
    simp (disch := omega) only [wpX_execute, nI_clamp, vp_in_nI, nI_1, nI_add, mb_lt_t, mb_lt_f, mb_le_t, mb_le_f, mb_ne, mb_lt0, mb_le0, mb_m1, mb_m1l, mb_m1g, mb_m1n, mb_x2, mb_x4, mb_x32, mb_lt_4, mb_le_4, mb_ge_4, mb_gt_4, mb_le_3, mb_gt_3, mb_le_7, mb_gt_7, mb_lt_32, mb_ge_32, mb_lt_128, mb_ge_128, mb_ge_1, mb_lt_1, mb_ge_1f, mb_lt_1t, not_true, not_false_iff, false_implies, true_implies, true_and, and_true, forall_eq, forall_const, eq_self, mb_e10, mb_e01, mb_e02, mb_e03, mb_e04, mb_e05, mb_e06, mb_e07, mb_l00, mb_l02, mb_g50, mb_g60, mb_e10, mb_e12, mb_e13, mb_e14, mb_e15, mb_e16, mb_e17, mb_l10, mb_l12, mb_g51, mb_g61, mb_e20, mb_e21, mb_e23, mb_e24, mb_e25, mb_e26, mb_e27, mb_l20, mb_l22, mb_g52, mb_g62, mb_e30, mb_e31, mb_e32, mb_e34, mb_e35, mb_e36, mb_e37, mb_l30, mb_l32, mb_g53, mb_g63, mb_e40, mb_e41, mb_e42, mb_e43, mb_e45, mb_e46, mb_e47, mb_l40, mb_l42, mb_g54, mb_g64, mb_e50, mb_e51, mb_e52, mb_e53, mb_e54, mb_e56, mb_e57, mb_l50, mb_l52, mb_g55, mb_g65, mb_e60, mb_e61, mb_e62, mb_e63, mb_e64, mb_e65, mb_e67, mb_l60, mb_l62, mb_g56, mb_g66, mb_e70, mb_e71, mb_e72, mb_e73, mb_e74, mb_e75, mb_e76, mb_l70, mb_l72, mb_g57, mb_g67]
    exact mx_ok (by omega) (by decide) K
end
end
section
section
variable {n p nd c c' : Nat} {par rev st pcs regs plen pop px py kd hm lk ht sl path kd' hm' lk' ht' sl' rev' regs' path' : Nat → Int32} {steps rX : Int32}
theorem mx_rstop {post : Int32 → St2 → Prop} {m z d l q : Nat} (hd : d < 4) (el : plen d = nI l) (eq : pcs d = nI q) (hl : l ≤ 32) (hq : q ≤ 32) (h : steps ≤ nI z ∨ l ≤ q) (K : post (nI z) (nI n, nI p, nI nd, nI c, par, rev, st, pcs, regs, plen, pop, px, py, kd, hm, lk, ht, sl, path)) : wX_run_21 post (nI d) steps (m + 1) (nI z) (nI n) (nI p) (nI nd) (nI c) par rev st pcs regs plen pop px py kd hm lk ht sl path := by
  by_cases s : steps ≤ nI z
  · exact br_t s K
  · have h' : l ≤ q := h.resolve_left s
    simp (disch := omega) only [wX_run_21, nI_clamp, vp_in_nI, nI_1, nI_add, mb_lt_t, mb_lt_f, mb_le_t, mb_le_f, mb_ne, mb_lt0, mb_le0, mb_m1, mb_m1l, mb_m1g, mb_m1n, mb_x2, mb_x4, mb_x32, mb_lt_4, mb_le_4, mb_ge_4, mb_gt_4, mb_le_3, mb_gt_3, mb_le_7, mb_gt_7, mb_lt_32, mb_ge_32, mb_lt_128, mb_ge_128, mb_ge_1, mb_lt_1, mb_ge_1f, mb_lt_1t, not_true, not_false_iff, false_implies, true_implies, true_and, and_true, forall_eq, forall_const, eq_self, mb_e10, s, el, eq]
    exact K
theorem mx_rgo {post : Int32 → St2 → Prop} {m z d l q o x y : Nat} (hd : d < 4) (el : plen d = nI l) (eq : pcs d = nI q) (hl : l ≤ 32) (hq : q < l) (s : ¬ steps ≤ nI z)
    (e1 : pop (d * 32 + q) = nI o) (e2 : px (d * 32 + q) = nI x) (e3 : py (d * 32 + q) = nI y)
    (iX : ∀ post' : Int32 → St2 → Prop, post' rX (nI n, nI p, nI nd, nI c', par, rev', st, pcs, regs', plen, pop, px, py, kd', hm', lk', ht', sl', path') → wpX_execute post' (nI n, nI p, nI nd, nI c, par, rev, st, pcs, regs, plen, pop, px, py, kd, hm, lk, ht, sl, path) (nI d) (nI o) (nI x) (nI y)) (nf : -1 ≤ rX)
    (K : wX_run_21 post (nI d) steps m (nI (z + 1)) (nI n) (nI p) (nI nd) (nI c') par rev' st (upd pcs d (nI (q + 1))) regs' plen pop px py kd' hm' lk' ht' sl' path') : wX_run_21 post (nI d) steps (m + 1) (nI z) (nI n) (nI p) (nI nd) (nI c) par rev st pcs regs plen pop px py kd hm lk ht sl path := by
  simp (disch := omega) only [wX_run_21, nI_clamp, vp_in_nI, nI_1, nI_add, mb_lt_t, mb_lt_f, mb_le_t, mb_le_f, mb_ne, mb_lt0, mb_le0, mb_m1, mb_m1l, mb_m1g, mb_m1n, mb_x2, mb_x4, mb_x32, mb_lt_4, mb_le_4, mb_ge_4, mb_gt_4, mb_le_3, mb_gt_3, mb_le_7, mb_gt_7, mb_lt_32, mb_ge_32, mb_lt_128, mb_ge_128, mb_ge_1, mb_lt_1, mb_ge_1f, mb_lt_1t, not_true, not_false_iff, false_implies, true_implies, true_and, and_true, forall_eq, forall_const, eq_self, mb_e10, s, el, eq, e1, e2, e3]
  refine iX _ ?_
  simp (disch := omega) only [wpX_isFault, nI_clamp, vp_in_nI, nI_1, nI_add, mb_lt_t, mb_lt_f, mb_le_t, mb_le_f, mb_ne, mb_lt0, mb_le0, mb_m1, mb_m1l, mb_m1g, mb_m1n, mb_x2, mb_x4, mb_x32, mb_lt_4, mb_le_4, mb_ge_4, mb_gt_4, mb_le_3, mb_gt_3, mb_le_7, mb_gt_7, mb_lt_32, mb_ge_32, mb_lt_128, mb_ge_128, mb_ge_1, mb_lt_1, mb_ge_1f, mb_lt_1t, not_true, not_false_iff, false_implies, true_implies, true_and, and_true, forall_eq, forall_const, eq_self, mb_e10, nf, eq]
  exact K
theorem mx_rfl {post : Int32 → St2 → Prop} {m z d l q o x y e : Nat} (hd : d < 4) (el : plen d = nI l) (eq : pcs d = nI q) (hl : l ≤ 32) (hq : q < l) (s : ¬ steps ≤ nI z)
    (e1 : pop (d * 32 + q) = nI o) (e2 : px (d * 32 + q) = nI x) (e3 : py (d * 32 + q) = nI y)
    (iX : ∀ post' : Int32 → St2 → Prop, post' (-1 - nI e) (nI n, nI p, nI nd, nI c', par, rev', st, pcs, regs', plen, pop, px, py, kd', hm', lk', ht', sl', path') → wpX_execute post' (nI n, nI p, nI nd, nI c, par, rev, st, pcs, regs, plen, pop, px, py, kd, hm, lk, ht, sl, path) (nI d) (nI o) (nI x) (nI y)) (h1 : 1 ≤ e) (h3 : e ≤ 3)
    (K : post (nI z) (nI n, nI p, nI nd, nI c', par, rev', (upd st d (nI e)), pcs, regs', plen, pop, px, py, kd', hm', lk', ht', sl', path')) : wX_run_21 post (nI d) steps (m + 1) (nI z) (nI n) (nI p) (nI nd) (nI c) par rev st pcs regs plen pop px py kd hm lk ht sl path := by
  simp (disch := omega) only [wX_run_21, nI_clamp, vp_in_nI, nI_1, nI_add, mb_lt_t, mb_lt_f, mb_le_t, mb_le_f, mb_ne, mb_lt0, mb_le0, mb_m1, mb_m1l, mb_m1g, mb_m1n, mb_x2, mb_x4, mb_x32, mb_lt_4, mb_le_4, mb_ge_4, mb_gt_4, mb_le_3, mb_gt_3, mb_le_7, mb_gt_7, mb_lt_32, mb_ge_32, mb_lt_128, mb_ge_128, mb_ge_1, mb_lt_1, mb_ge_1f, mb_lt_1t, not_true, not_false_iff, false_implies, true_implies, true_and, and_true, forall_eq, forall_const, eq_self, mb_e10, s, el, eq, e1, e2, e3]
  refine iX _ ?_
  have nf := mb_nle e h3 h1
  have ne := mb_neg e h3
  simp (disch := omega) only [wpX_isFault, nI_clamp, vp_in_nI, nI_1, nI_add, mb_lt_t, mb_lt_f, mb_le_t, mb_le_f, mb_ne, mb_lt0, mb_le0, mb_m1, mb_m1l, mb_m1g, mb_m1n, mb_x2, mb_x4, mb_x32, mb_lt_4, mb_le_4, mb_ge_4, mb_gt_4, mb_le_3, mb_gt_3, mb_le_7, mb_gt_7, mb_lt_32, mb_ge_32, mb_lt_128, mb_ge_128, mb_ge_1, mb_lt_1, mb_ge_1f, mb_lt_1t, not_true, not_false_iff, false_implies, true_implies, true_and, and_true, forall_eq, forall_const, eq_self, mb_e10, nf, ne]
  exact K
/-- run's loop -/
theorem mb_run {d : Nat} (hd : d < nd) (steps : Int32) : ∀ (w c : Nat) (rev pcs regs kd hm lk ht sl path : Nat → Int32) (l q z : Nat), mb_I n p nd c par pcs regs plen pop px py kd hm lk sl →
    plen d = nI l → pcs d = nI q → l ≤ 32 → q ≤ l → l - q ≤ w →
    ∃ (c' : Nat) (kd' hm' lk' ht' sl' : Nat → Int32) (rev' st' pcs' regs' path' : Nat → Int32) (r : Int32), mb_I n p nd c' par pcs' regs' plen pop px py kd' hm' lk' sl' ∧ mb_E c kd hm lk c' kd' hm' lk' ∧ mb_V nd rev rev' ∧
      (∀ S, mb_cl par rev nd S → S (nI d) → mb_Fr S c hm ht sl ht' sl' ∧ mb_Fg S nd regs regs') ∧
      (∀ post : Int32 → St2 → Prop, post r (nI n, nI p, nI nd, nI c', par, rev', st', pcs', regs', plen, pop, px, py, kd', hm', lk', ht', sl', path') → ∀ m, w < m → wX_run_21 post (nI d) steps m (nI z) (nI n) (nI p) (nI nd) (nI c) par rev st pcs regs plen pop px py kd hm lk ht sl path) := by
  intro w
  induction w with
  | zero =>
    intro c rev pcs regs kd hm lk ht sl path l q z I el eq hl hq hw
    have hnd : nd ≤ 4 := I.1.2.2.2.1
    refine ⟨c, kd, hm, lk, ht, sl, rev, st, pcs, regs, path, nI z, I, mb_E_rf, mb_V_rf, fun S _ _ => ⟨mb_Fr_rf, mb_Fg_rf⟩, ?_⟩
    intro post K m h
    obtain ⟨m, rfl⟩ : ∃ q, m = q + 1 := ⟨m - 1, by omega⟩
    exact mx_rstop (by omega) el eq hl (by omega) (Or.inr (by omega)) K
  | succ w ih =>
    intro c rev pcs regs kd hm lk ht sl path l q z I el eq hl hq hw
    have hnd : nd ≤ 4 := I.1.2.2.2.1
    by_cases stop : steps ≤ nI z ∨ l ≤ q
    · refine ⟨c, kd, hm, lk, ht, sl, rev, st, pcs, regs, path, nI z, I, mb_E_rf, mb_V_rf, fun S _ _ => ⟨mb_Fr_rf, mb_Fg_rf⟩, ?_⟩
      intro post K m h
      obtain ⟨m, rfl⟩ : ∃ q, m = q + 1 := ⟨m - 1, by omega⟩
      exact mx_rstop (by omega) el eq hl (by omega) stop K
    · have s : ¬ steps ≤ nI z := fun z => stop (Or.inl z)
      have lq : q < l := Nat.lt_of_not_le (fun z => stop (Or.inr z))
      obtain ⟨l', q', g1, g2, g3, g4, g5⟩ := I.2.2.2.2.2.2 d (by omega)
      have hl' : l' = l := (nI_eq (by omega) (by omega)).mp (g3.symm.trans el)
      subst hl'
      obtain ⟨o, x, y, h0, h1, h2, e1, e2, e3⟩ := g5 q lq
      obtain ⟨c', kd', hm', lk', ht', sl', rev', regs', path', rX, e, I2, E2, V2, he3, A, F2, iX⟩ := mb_exec I hd h0 h1 h2 rev st ht path
      rcases A with ⟨rfl, nf⟩ | ⟨a1, rfl⟩
      · obtain ⟨H2, hn8, hp8, hp, hP, hR, hG⟩ := I2
        obtain ⟨c2, kd2, hm2, lk2, ht2, sl2, rev2, st2, pcs2, regs2, path2, r, I3, E3, V3, F3, jX⟩ := ih c' rev' (upd pcs d (nI (q + 1))) regs' kd' hm' lk' ht' sl' path' l' (q + 1) (z + 1) ⟨H2, hn8, hp8, hp, hP, hR, mb_G_pc hG (by omega) el hl lq⟩ el pk_us hl lq (by omega)
        refine ⟨c2, kd2, hm2, lk2, ht2, sl2, rev2, st2, pcs2, regs2, path2, r, I3, mb_E_tr E2 E3, mb_V_tr V2 V3, ?_, ?_⟩
        · intro S cl s
          obtain ⟨f1, f2⟩ := F2 S cl s
          obtain ⟨f3, f4⟩ := F3 S (mb_cl_up cl V2.1) s
          exact ⟨mb_Fr_tr f1 E2 f3, mb_Fg_tr f2 f4⟩
        · intro post K m h
          obtain ⟨m, rfl⟩ : ∃ q, m = q + 1 := ⟨m - 1, by omega⟩
          exact mx_rgo (by omega) el eq hl lq s e1 e2 e3 iX nf (jX post K m (by omega))
      · refine ⟨c', kd', hm', lk', ht', sl', rev', upd st d (nI e), pcs, regs', path', nI z, I2, E2, V2, F2, ?_⟩
        intro post K m h
        obtain ⟨m, rfl⟩ : ∃ q, m = q + 1 := ⟨m - 1, by omega⟩
        exact mx_rfl (by omega) el eq hl lq s e1 e2 e3 iX a1 he3 K
end
end
section
section
variable {n p nd c : Nat} {par rev st pcs regs plen pop px py kd hm lk ht sl path : Nat → Int32}
theorem mb_ix4 (x : Int32) : (x < 0 ∧ ¬ 0 ≤ x) ∨ (¬ x < 0 ∧ 0 ≤ x ∧ 4 ≤ x ∧ ¬ x < 4 ∧ ¬ x ≤ 3 ∧ 3 < x) ∨ ∃ j : Nat, j < 4 ∧ x = nI j := by
  rcases mb_ix x (n := 4) (by decide) with h | ⟨a, b, e, f⟩ | h
  · exact Or.inl h
  · have g : (3 : Int32) < x := Int32.lt_of_lt_of_le (by decide) e
    exact Or.inr (Or.inl ⟨a, b, e, f, Int32.not_le.mpr g, g⟩)
  · exact Or.inr (Or.inr h)
theorem mb_ix8 (x : Int32) : (x < 0 ∧ ¬ 0 ≤ x) ∨ (¬ x < 0 ∧ 0 ≤ x ∧ ¬ x ≤ 7 ∧ 7 < x) ∨ ∃ j : Nat, j < 8 ∧ x = nI j := by
  rcases mb_ix x (n := 8) (by decide) with h | ⟨a, b, e, f⟩ | h
  · exact Or.inl h
  · have g : (7 : Int32) < x := Int32.lt_of_lt_of_le (by decide) e
    exact Or.inr (Or.inl ⟨a, b, Int32.not_le.mpr g, g⟩)
  · exact Or.inr (Or.inr h)
theorem mb_ixm (x : Int32) {n : Nat} (hn : n < 2 ^ 31) : (x < 1) ∨ (¬ x < 1 ∧ nI n ≤ x ∧ ¬ x < nI n) ∨ ∃ j : Nat, 1 ≤ j ∧ j < n ∧ x = nI j := by
  rcases mb_ix x hn with ⟨h, -⟩ | ⟨a, b, e, f⟩ | ⟨j, hj, rfl⟩
  · exact Or.inl (Int32.lt_trans h (by decide))
  · by_cases z : x < 1
    · exact Or.inl z
    · exact Or.inr (Or.inl ⟨z, e, f⟩)
  · by_cases z : j = 0
    · subst z; exact Or.inl (by decide)
    · exact Or.inr (Or.inr ⟨j, by omega, hj, rfl⟩)
/-- what every call keeps: domains stay, revoked membranes stay revoked -/
def mb_M (nd : Nat) (rev : Nat → Int32) (nd' : Nat) (rev' : Nat → Int32) : Prop := nd ≤ nd' ∧ ∀ m, m < nd → ¬ rev m = 0 → ¬ rev' m = 0
theorem mb_M_rf {nd : Nat} {rev : Nat → Int32} : mb_M nd rev nd rev := ⟨Nat.le_refl _, fun _ _ h => h⟩
theorem mx_adj {post : Int32 → Prop} {h d : Nat} (h1 : h < 4) (h2 : d < 4) (a : par h = nI d ∨ par d = nI h) (K : post 1) : wpX_areAdjacent post (nI n, nI p, nI nd, nI c, par, rev, st, pcs, regs, plen, pop, px, py, kd, hm, lk, ht, sl, path) (nI h) (nI d) := by
  by_cases e : par h = nI d
  · simp (disch := omega) only [wpX_areAdjacent, nI_clamp, vp_in_nI, nI_1, nI_add, mb_lt_t, mb_lt_f, mb_le_t, mb_le_f, mb_ne, mb_lt0, mb_le0, mb_m1, mb_m1l, mb_m1g, mb_m1n, mb_x2, mb_x4, mb_x32, mb_lt_4, mb_le_4, mb_ge_4, mb_gt_4, mb_le_3, mb_gt_3, mb_le_7, mb_gt_7, mb_lt_32, mb_ge_32, mb_lt_128, mb_ge_128, mb_ge_1, mb_lt_1, mb_ge_1f, mb_lt_1t, not_true, not_false_iff, false_implies, true_implies, true_and, and_true, forall_eq, forall_const, eq_self, mb_e10, e]
    exact K
  · have e' : par d = nI h := a.resolve_left e
    simp (disch := omega) only [wpX_areAdjacent, nI_clamp, vp_in_nI, nI_1, nI_add, mb_lt_t, mb_lt_f, mb_le_t, mb_le_f, mb_ne, mb_lt0, mb_le0, mb_m1, mb_m1l, mb_m1g, mb_m1n, mb_x2, mb_x4, mb_x32, mb_lt_4, mb_le_4, mb_ge_4, mb_gt_4, mb_le_3, mb_gt_3, mb_le_7, mb_gt_7, mb_lt_32, mb_ge_32, mb_lt_128, mb_ge_128, mb_ge_1, mb_lt_1, mb_ge_1f, mb_lt_1t, not_true, not_false_iff, false_implies, true_implies, true_and, and_true, forall_eq, forall_const, eq_self, mb_e10, e, e']
    exact K
theorem mx_nadj {post : Int32 → Prop} {h d : Nat} (h1 : h < 4) (h2 : d < 4) (a : ¬ (par h = nI d ∨ par d = nI h)) (K : post 0) : wpX_areAdjacent post (nI n, nI p, nI nd, nI c, par, rev, st, pcs, regs, plen, pop, px, py, kd, hm, lk, ht, sl, path) (nI h) (nI d) := by
  have e : ¬ par h = nI d := fun z => a (Or.inl z)
  have e' : ¬ par d = nI h := fun z => a (Or.inr z)
  simp (disch := omega) only [wpX_areAdjacent, nI_clamp, vp_in_nI, nI_1, nI_add, mb_lt_t, mb_lt_f, mb_le_t, mb_le_f, mb_ne, mb_lt0, mb_le0, mb_m1, mb_m1l, mb_m1g, mb_m1n, mb_x2, mb_x4, mb_x32, mb_lt_4, mb_le_4, mb_ge_4, mb_gt_4, mb_le_3, mb_gt_3, mb_le_7, mb_gt_7, mb_lt_32, mb_ge_32, mb_lt_128, mb_ge_128, mb_ge_1, mb_lt_1, mb_ge_1f, mb_lt_1t, not_true, not_false_iff, false_implies, true_implies, true_and, and_true, forall_eq, forall_const, eq_self, mb_e10, e, e']
  exact K
theorem mb_c_newDomain (I : mb_I n p nd c par pcs regs plen pop px py kd hm lk sl) (v1 : Int32) (rev st ht path : Nat → Int32) : ∃ (nd' c' : Nat) (par' rev' st' pcs' regs' plen' pop' px' py' kd' hm' lk' ht' sl' path' : Nat → Int32) (r : Int32), mb_I n p nd' c' par' pcs' regs' plen' pop' px' py' kd' hm' lk' sl' ∧ mb_M nd rev nd' rev' ∧ (∀ post : Int32 → St2 → Prop, post r (nI n, nI p, nI nd', nI c', par', rev', st', pcs', regs', plen', pop', px', py', kd', hm', lk', ht', sl', path') → wpX_newDomain post (nI n, nI p, nI nd, nI c, par, rev, st, pcs, regs, plen, pop, px, py, kd, hm, lk, ht, sl, path) v1) := by
  obtain ⟨H, hn8, hp8, hp, hP, hR, hG⟩ := id I
  have hn : n ≤ 32 := H.2.1
  have hcn : c ≤ n := H.1
  have hnd : nd ≤ 4 := H.2.2.2.1
  have hnd1 : 1 ≤ nd := H.2.2.1
  rcases mb_ix v1 (n := nd) (by omega) with ⟨z1, z2⟩ | ⟨z1, z2, z3, z4⟩ | ⟨j, hj, rfl⟩
  · refine ⟨nd, c, par, rev, st, pcs, regs, plen, pop, px, py, kd, hm, lk, ht, sl, path, -1, I, mb_M_rf, fun post K => ?_⟩
    simp (disch := omega) only [wpX_newDomain, wpX_domainExists, nI_clamp, vp_in_nI, nI_1, nI_add, mb_lt_t, mb_lt_f, mb_le_t, mb_le_f, mb_ne, mb_lt0, mb_le0, mb_m1, mb_m1l, mb_m1g, mb_m1n, mb_x2, mb_x4, mb_x32, mb_lt_4, mb_le_4, mb_ge_4, mb_gt_4, mb_le_3, mb_gt_3, mb_le_7, mb_gt_7, mb_lt_32, mb_ge_32, mb_lt_128, mb_ge_128, mb_ge_1, mb_lt_1, mb_ge_1f, mb_lt_1t, not_true, not_false_iff, false_implies, true_implies, true_and, and_true, forall_eq, forall_const, eq_self, mb_e10, z1, z2]
    exact K
  · refine ⟨nd, c, par, rev, st, pcs, regs, plen, pop, px, py, kd, hm, lk, ht, sl, path, -1, I, mb_M_rf, fun post K => ?_⟩
    simp (disch := omega) only [wpX_newDomain, wpX_domainExists, nI_clamp, vp_in_nI, nI_1, nI_add, mb_lt_t, mb_lt_f, mb_le_t, mb_le_f, mb_ne, mb_lt0, mb_le0, mb_m1, mb_m1l, mb_m1g, mb_m1n, mb_x2, mb_x4, mb_x32, mb_lt_4, mb_le_4, mb_ge_4, mb_gt_4, mb_le_3, mb_gt_3, mb_le_7, mb_gt_7, mb_lt_32, mb_ge_32, mb_lt_128, mb_ge_128, mb_ge_1, mb_lt_1, mb_ge_1f, mb_lt_1t, not_true, not_false_iff, false_implies, true_implies, true_and, and_true, forall_eq, forall_const, eq_self, mb_e10, z1, z2, z3, z4]
    exact K
  · by_cases h4 : nd < 4
    · by_cases hc : c < n
      · refine ⟨nd + 1, c + 1, upd par nd (nI j), rev, st, pcs, regs, plen, pop, px, py, upd kd c 2, upd hm c (nI j), upd lk c (nI nd), upd ht c 0, upd (upd sl (c * 2) (-1)) (c * 2 + 1) (-1), path, nI nd,
          ⟨mb_mk (mb_nd H h4 _) hc ⟨j, by omega, pk_us, Or.inr (Or.inl ⟨pk_us, nd, hnd1, by omega, pk_us⟩)⟩ (fun z => absurd z (by decide)), hn8, hp8, hp, mb_P_nd hP hnd1 hj, mb_R_nd (mb_R_up hR (mb_mkE (kd := kd) (lk := lk) (k := 2) (l := nI nd))) h4, hG⟩, ⟨by omega, fun _ _ h => h⟩, fun post K => ?_⟩
        simp (disch := omega) only [wpX_newDomain, wpX_domainExists, nI_clamp, vp_in_nI, nI_1, nI_add, mb_lt_t, mb_lt_f, mb_le_t, mb_le_f, mb_ne, mb_lt0, mb_le0, mb_m1, mb_m1l, mb_m1g, mb_m1n, mb_x2, mb_x4, mb_x32, mb_lt_4, mb_le_4, mb_ge_4, mb_gt_4, mb_le_3, mb_gt_3, mb_le_7, mb_gt_7, mb_lt_32, mb_ge_32, mb_lt_128, mb_ge_128, mb_ge_1, mb_lt_1, mb_ge_1f, mb_lt_1t, not_true, not_false_iff, false_implies, true_implies, true_and, and_true, forall_eq, forall_const, eq_self, mb_e10]
        exact mx_mk hc hn K
      · refine ⟨nd, c, par, rev, st, pcs, regs, plen, pop, px, py, kd, hm, lk, ht, sl, path, -1, I, mb_M_rf, fun post K => ?_⟩
        simp (disch := omega) only [wpX_newDomain, wpX_domainExists, nI_clamp, vp_in_nI, nI_1, nI_add, mb_lt_t, mb_lt_f, mb_le_t, mb_le_f, mb_ne, mb_lt0, mb_le0, mb_m1, mb_m1l, mb_m1g, mb_m1n, mb_x2, mb_x4, mb_x32, mb_lt_4, mb_le_4, mb_ge_4, mb_gt_4, mb_le_3, mb_gt_3, mb_le_7, mb_gt_7, mb_lt_32, mb_ge_32, mb_lt_128, mb_ge_128, mb_ge_1, mb_lt_1, mb_ge_1f, mb_lt_1t, not_true, not_false_iff, false_implies, true_implies, true_and, and_true, forall_eq, forall_const, eq_self, mb_e10]
        exact K
    · refine ⟨nd, c, par, rev, st, pcs, regs, plen, pop, px, py, kd, hm, lk, ht, sl, path, -1, I, mb_M_rf, fun post K => ?_⟩
      simp (disch := omega) only [wpX_newDomain, wpX_domainExists, nI_clamp, vp_in_nI, nI_1, nI_add, mb_lt_t, mb_lt_f, mb_le_t, mb_le_f, mb_ne, mb_lt0, mb_le0, mb_m1, mb_m1l, mb_m1g, mb_m1n, mb_x2, mb_x4, mb_x32, mb_lt_4, mb_le_4, mb_ge_4, mb_gt_4, mb_le_3, mb_gt_3, mb_le_7, mb_gt_7, mb_lt_32, mb_ge_32, mb_lt_128, mb_ge_128, mb_ge_1, mb_lt_1, mb_ge_1f, mb_lt_1t, not_true, not_false_iff, false_implies, true_implies, true_and, and_true, forall_eq, forall_const, eq_self, mb_e10]
      exact K
theorem mb_c_newBox (I : mb_I n p nd c par pcs regs plen pop px py kd hm lk sl) (v1 : Int32) (rev st ht path : Nat → Int32) : ∃ (nd' c' : Nat) (par' rev' st' pcs' regs' plen' pop' px' py' kd' hm' lk' ht' sl' path' : Nat → Int32) (r : Int32), mb_I n p nd' c' par' pcs' regs' plen' pop' px' py' kd' hm' lk' sl' ∧ mb_M nd rev nd' rev' ∧ (∀ post : Int32 → St2 → Prop, post r (nI n, nI p, nI nd', nI c', par', rev', st', pcs', regs', plen', pop', px', py', kd', hm', lk', ht', sl', path') → wpX_newBox post (nI n, nI p, nI nd, nI c, par, rev, st, pcs, regs, plen, pop, px, py, kd, hm, lk, ht, sl, path) v1) := by
  obtain ⟨H, hn8, hp8, hp, hP, hR, hG⟩ := id I
  have hn : n ≤ 32 := H.2.1
  have hcn : c ≤ n := H.1
  have hnd : nd ≤ 4 := H.2.2.2.1
  have hnd1 : 1 ≤ nd := H.2.2.1
  rcases mb_ix v1 (n := nd) (by omega) with ⟨z1, z2⟩ | ⟨z1, z2, z3, z4⟩ | ⟨d, hd, rfl⟩
  · refine ⟨nd, c, par, rev, st, pcs, regs, plen, pop, px, py, kd, hm, lk, ht, sl, path, -1, I, mb_M_rf, fun post K => ?_⟩
    simp (disch := omega) only [wpX_newBox, wpX_domainExists, nI_clamp, vp_in_nI, nI_1, nI_add, mb_lt_t, mb_lt_f, mb_le_t, mb_le_f, mb_ne, mb_lt0, mb_le0, mb_m1, mb_m1l, mb_m1g, mb_m1n, mb_x2, mb_x4, mb_x32, mb_lt_4, mb_le_4, mb_ge_4, mb_gt_4, mb_le_3, mb_gt_3, mb_le_7, mb_gt_7, mb_lt_32, mb_ge_32, mb_lt_128, mb_ge_128, mb_ge_1, mb_lt_1, mb_ge_1f, mb_lt_1t, not_true, not_false_iff, false_implies, true_implies, true_and, and_true, forall_eq, forall_const, eq_self, mb_e10, z1, z2]
    exact K
  · refine ⟨nd, c, par, rev, st, pcs, regs, plen, pop, px, py, kd, hm, lk, ht, sl, path, -1, I, mb_M_rf, fun post K => ?_⟩
    simp (disch := omega) only [wpX_newBox, wpX_domainExists, nI_clamp, vp_in_nI, nI_1, nI_add, mb_lt_t, mb_lt_f, mb_le_t, mb_le_f, mb_ne, mb_lt0, mb_le0, mb_m1, mb_m1l, mb_m1g, mb_m1n, mb_x2, mb_x4, mb_x32, mb_lt_4, mb_le_4, mb_ge_4, mb_gt_4, mb_le_3, mb_gt_3, mb_le_7, mb_gt_7, mb_lt_32, mb_ge_32, mb_lt_128, mb_ge_128, mb_ge_1, mb_lt_1, mb_ge_1f, mb_lt_1t, not_true, not_false_iff, false_implies, true_implies, true_and, and_true, forall_eq, forall_const, eq_self, mb_e10, z1, z2, z3, z4]
    exact K
  · by_cases hc : c < n
    · refine ⟨nd, c + 1, par, rev, st, pcs, regs, plen, pop, px, py, upd kd c 1, upd hm c (nI d), upd lk c (-1), upd ht c 0, upd (upd sl (c * 2) (-1)) (c * 2 + 1) (-1), path, nI c,
        ⟨mb_mk H hc ⟨d, hd, pk_us, Or.inl ⟨pk_us, pk_us⟩⟩ (fun z => absurd z (by decide)), hn8, hp8, hp, hP, mb_R_up hR (mb_mkE (kd := kd) (lk := lk) (k := 1) (l := -1)), hG⟩, mb_M_rf, fun post K => ?_⟩
      simp (disch := omega) only [wpX_newBox, wpX_domainExists, nI_clamp, vp_in_nI, nI_1, nI_add, mb_lt_t, mb_lt_f, mb_le_t, mb_le_f, mb_ne, mb_lt0, mb_le0, mb_m1, mb_m1l, mb_m1g, mb_m1n, mb_x2, mb_x4, mb_x32, mb_lt_4, mb_le_4, mb_ge_4, mb_gt_4, mb_le_3, mb_gt_3, mb_le_7, mb_gt_7, mb_lt_32, mb_ge_32, mb_lt_128, mb_ge_128, mb_ge_1, mb_lt_1, mb_ge_1f, mb_lt_1t, not_true, not_false_iff, false_implies, true_implies, true_and, and_true, forall_eq, forall_const, eq_self, mb_e10]
      refine mx_mk hc hn ?_
      simp (disch := omega) only [wpX_isFault, nI_clamp, vp_in_nI, nI_1, nI_add, mb_lt_t, mb_lt_f, mb_le_t, mb_le_f, mb_ne, mb_lt0, mb_le0, mb_m1, mb_m1l, mb_m1g, mb_m1n, mb_x2, mb_x4, mb_x32, mb_lt_4, mb_le_4, mb_ge_4, mb_gt_4, mb_le_3, mb_gt_3, mb_le_7, mb_gt_7, mb_lt_32, mb_ge_32, mb_lt_128, mb_ge_128, mb_ge_1, mb_lt_1, mb_ge_1f, mb_lt_1t, not_true, not_false_iff, false_implies, true_implies, true_and, and_true, forall_eq, forall_const, eq_self, mb_e10]
      exact K
    · refine ⟨nd, c, par, rev, st, pcs, regs, plen, pop, px, py, kd, hm, lk, ht, sl, path, -1, I, mb_M_rf, fun post K => ?_⟩
      simp (disch := omega) only [wpX_newBox, wpX_domainExists, nI_clamp, vp_in_nI, nI_1, nI_add, mb_lt_t, mb_lt_f, mb_le_t, mb_le_f, mb_ne, mb_lt0, mb_le0, mb_m1, mb_m1l, mb_m1g, mb_m1n, mb_x2, mb_x4, mb_x32, mb_lt_4, mb_le_4, mb_ge_4, mb_gt_4, mb_le_3, mb_gt_3, mb_le_7, mb_gt_7, mb_lt_32, mb_ge_32, mb_lt_128, mb_ge_128, mb_ge_1, mb_lt_1, mb_ge_1f, mb_lt_1t, not_true, not_false_iff, false_implies, true_implies, true_and, and_true, forall_eq, forall_const, eq_self, mb_e10]
      refine mx_full (by omega) (by omega) ?_
      simp (disch := omega) only [wpX_isFault, nI_clamp, vp_in_nI, nI_1, nI_add, mb_lt_t, mb_lt_f, mb_le_t, mb_le_f, mb_ne, mb_lt0, mb_le0, mb_m1, mb_m1l, mb_m1g, mb_m1n, mb_x2, mb_x4, mb_x32, mb_lt_4, mb_le_4, mb_ge_4, mb_gt_4, mb_le_3, mb_gt_3, mb_le_7, mb_gt_7, mb_lt_32, mb_ge_32, mb_lt_128, mb_ge_128, mb_ge_1, mb_lt_1, mb_ge_1f, mb_lt_1t, not_true, not_false_iff, false_implies, true_implies, true_and, and_true, forall_eq, forall_const, eq_self, mb_e10, show ¬ ((-1 : Int32) ≤ -4) from by decide]
      exact K
theorem mb_c_revoke (I : mb_I n p nd c par pcs regs plen pop px py kd hm lk sl) (v1 : Int32) (rev st ht path : Nat → Int32) : ∃ (nd' c' : Nat) (par' rev' st' pcs' regs' plen' pop' px' py' kd' hm' lk' ht' sl' path' : Nat → Int32) (r : Int32), mb_I n p nd' c' par' pcs' regs' plen' pop' px' py' kd' hm' lk' sl' ∧ mb_M nd rev nd' rev' ∧ (∀ post : Int32 → St2 → Prop, post r (nI n, nI p, nI nd', nI c', par', rev', st', pcs', regs', plen', pop', px', py', kd', hm', lk', ht', sl', path') → wpX_revoke post (nI n, nI p, nI nd, nI c, par, rev, st, pcs, regs, plen, pop, px, py, kd, hm, lk, ht, sl, path) v1) := by
  obtain ⟨H, hn8, hp8, hp, hP, hR, hG⟩ := id I
  have hn : n ≤ 32 := H.2.1
  have hcn : c ≤ n := H.1
  have hnd : nd ≤ 4 := H.2.2.2.1
  have hnd1 : 1 ≤ nd := H.2.2.1
  rcases mb_ixm v1 (n := nd) (by omega) with z | ⟨z1, z2, z3⟩ | ⟨j, hj1, hj, rfl⟩
  · refine ⟨nd, c, par, rev, st, pcs, regs, plen, pop, px, py, kd, hm, lk, ht, sl, path, 0, I, mb_M_rf, fun post K => ?_⟩
    simp (disch := omega) only [wpX_revoke, wpX_membraneExists, nI_clamp, vp_in_nI, nI_1, nI_add, mb_lt_t, mb_lt_f, mb_le_t, mb_le_f, mb_ne, mb_lt0, mb_le0, mb_m1, mb_m1l, mb_m1g, mb_m1n, mb_x2, mb_x4, mb_x32, mb_lt_4, mb_le_4, mb_ge_4, mb_gt_4, mb_le_3, mb_gt_3, mb_le_7, mb_gt_7, mb_lt_32, mb_ge_32, mb_lt_128, mb_ge_128, mb_ge_1, mb_lt_1, mb_ge_1f, mb_lt_1t, not_true, not_false_iff, false_implies, true_implies, true_and, and_true, forall_eq, forall_const, eq_self, mb_e10, z]
    exact K
  · refine ⟨nd, c, par, rev, st, pcs, regs, plen, pop, px, py, kd, hm, lk, ht, sl, path, 0, I, mb_M_rf, fun post K => ?_⟩
    simp (disch := omega) only [wpX_revoke, wpX_membraneExists, nI_clamp, vp_in_nI, nI_1, nI_add, mb_lt_t, mb_lt_f, mb_le_t, mb_le_f, mb_ne, mb_lt0, mb_le0, mb_m1, mb_m1l, mb_m1g, mb_m1n, mb_x2, mb_x4, mb_x32, mb_lt_4, mb_le_4, mb_ge_4, mb_gt_4, mb_le_3, mb_gt_3, mb_le_7, mb_gt_7, mb_lt_32, mb_ge_32, mb_lt_128, mb_ge_128, mb_ge_1, mb_lt_1, mb_ge_1f, mb_lt_1t, not_true, not_false_iff, false_implies, true_implies, true_and, and_true, forall_eq, forall_const, eq_self, mb_e10, z1, z2, z3]
    exact K
  · by_cases r : rev j = 0
    · refine ⟨nd, c, par, upd rev j 1, st, pcs, regs, plen, pop, px, py, kd, hm, lk, ht, sl, path, 1, I, ⟨Nat.le_refl _, fun m _ h => mb_rm_set rev j m h⟩, fun post K => ?_⟩
      simp (disch := omega) only [wpX_revoke, wpX_membraneExists, nI_clamp, vp_in_nI, nI_1, nI_add, mb_lt_t, mb_lt_f, mb_le_t, mb_le_f, mb_ne, mb_lt0, mb_le0, mb_m1, mb_m1l, mb_m1g, mb_m1n, mb_x2, mb_x4, mb_x32, mb_lt_4, mb_le_4, mb_ge_4, mb_gt_4, mb_le_3, mb_gt_3, mb_le_7, mb_gt_7, mb_lt_32, mb_ge_32, mb_lt_128, mb_ge_128, mb_ge_1, mb_lt_1, mb_ge_1f, mb_lt_1t, not_true, not_false_iff, false_implies, true_implies, true_and, and_true, forall_eq, forall_const, eq_self, mb_e10, r]
      exact K
    · refine ⟨nd, c, par, rev, st, pcs, regs, plen, pop, px, py, kd, hm, lk, ht, sl, path, 0, I, mb_M_rf, fun post K => ?_⟩
      simp (disch := omega) only [wpX_revoke, wpX_membraneExists, nI_clamp, vp_in_nI, nI_1, nI_add, mb_lt_t, mb_lt_f, mb_le_t, mb_le_f, mb_ne, mb_lt0, mb_le0, mb_m1, mb_m1l, mb_m1g, mb_m1n, mb_x2, mb_x4, mb_x32, mb_lt_4, mb_le_4, mb_ge_4, mb_gt_4, mb_le_3, mb_gt_3, mb_le_7, mb_gt_7, mb_lt_32, mb_ge_32, mb_lt_128, mb_ge_128, mb_ge_1, mb_lt_1, mb_ge_1f, mb_lt_1t, not_true, not_false_iff, false_implies, true_implies, true_and, and_true, forall_eq, forall_const, eq_self, mb_e10, r]
      exact K
theorem mb_c_emit (I : mb_I n p nd c par pcs regs plen pop px py kd hm lk sl) (v1 : Int32) (v2 : Int32) (v3 : Int32) (v4 : Int32) (rev st ht path : Nat → Int32) : ∃ (nd' c' : Nat) (par' rev' st' pcs' regs' plen' pop' px' py' kd' hm' lk' ht' sl' path' : Nat → Int32) (r : Int32), mb_I n p nd' c' par' pcs' regs' plen' pop' px' py' kd' hm' lk' sl' ∧ mb_M nd rev nd' rev' ∧ (∀ post : Int32 → St2 → Prop, post r (nI n, nI p, nI nd', nI c', par', rev', st', pcs', regs', plen', pop', px', py', kd', hm', lk', ht', sl', path') → wpX_emit post (nI n, nI p, nI nd, nI c, par, rev, st, pcs, regs, plen, pop, px, py, kd, hm, lk, ht, sl, path) v1 v2 v3 v4) := by
  obtain ⟨H, hn8, hp8, hp, hP, hR, hG⟩ := id I
  have hn : n ≤ 32 := H.2.1
  have hcn : c ≤ n := H.1
  have hnd : nd ≤ 4 := H.2.2.2.1
  have hnd1 : 1 ≤ nd := H.2.2.1
  rcases mb_ix v1 (n := nd) (by omega) with ⟨z1, z2⟩ | ⟨z1, z2, z3, z4⟩ | ⟨d, hd, rfl⟩
  · refine ⟨nd, c, par, rev, st, pcs, regs, plen, pop, px, py, kd, hm, lk, ht, sl, path, 0, I, mb_M_rf, fun post K => ?_⟩
    simp (disch := omega) only [wpX_emit, wpX_domainExists, wpX_isRegister, nI_clamp, vp_in_nI, nI_1, nI_add, mb_lt_t, mb_lt_f, mb_le_t, mb_le_f, mb_ne, mb_lt0, mb_le0, mb_m1, mb_m1l, mb_m1g, mb_m1n, mb_x2, mb_x4, mb_x32, mb_lt_4, mb_le_4, mb_ge_4, mb_gt_4, mb_le_3, mb_gt_3, mb_le_7, mb_gt_7, mb_lt_32, mb_ge_32, mb_lt_128, mb_ge_128, mb_ge_1, mb_lt_1, mb_ge_1f, mb_lt_1t, not_true, not_false_iff, false_implies, true_implies, true_and, and_true, forall_eq, forall_const, eq_self, mb_e10, z1, z2]
    exact K
  · refine ⟨nd, c, par, rev, st, pcs, regs, plen, pop, px, py, kd, hm, lk, ht, sl, path, 0, I, mb_M_rf, fun post K => ?_⟩
    simp (disch := omega) only [wpX_emit, wpX_domainExists, wpX_isRegister, nI_clamp, vp_in_nI, nI_1, nI_add, mb_lt_t, mb_lt_f, mb_le_t, mb_le_f, mb_ne, mb_lt0, mb_le0, mb_m1, mb_m1l, mb_m1g, mb_m1n, mb_x2, mb_x4, mb_x32, mb_lt_4, mb_le_4, mb_ge_4, mb_gt_4, mb_le_3, mb_gt_3, mb_le_7, mb_gt_7, mb_lt_32, mb_ge_32, mb_lt_128, mb_ge_128, mb_ge_1, mb_lt_1, mb_ge_1f, mb_lt_1t, not_true, not_false_iff, false_implies, true_implies, true_and, and_true, forall_eq, forall_const, eq_self, mb_e10, z1, z2, z3, z4]
    exact K
  · rcases mb_ix8 v2 with ⟨z1, z2⟩ | ⟨z1, z2, z3, z4⟩ | ⟨o, ho, rfl⟩
    · refine ⟨nd, c, par, rev, st, pcs, regs, plen, pop, px, py, kd, hm, lk, ht, sl, path, 0, I, mb_M_rf, fun post K => ?_⟩
      simp (disch := omega) only [wpX_emit, wpX_domainExists, wpX_isRegister, nI_clamp, vp_in_nI, nI_1, nI_add, mb_lt_t, mb_lt_f, mb_le_t, mb_le_f, mb_ne, mb_lt0, mb_le0, mb_m1, mb_m1l, mb_m1g, mb_m1n, mb_x2, mb_x4, mb_x32, mb_lt_4, mb_le_4, mb_ge_4, mb_gt_4, mb_le_3, mb_gt_3, mb_le_7, mb_gt_7, mb_lt_32, mb_ge_32, mb_lt_128, mb_ge_128, mb_ge_1, mb_lt_1, mb_ge_1f, mb_lt_1t, not_true, not_false_iff, false_implies, true_implies, true_and, and_true, forall_eq, forall_const, eq_self, mb_e10, z1, z2]
      exact K
    · refine ⟨nd, c, par, rev, st, pcs, regs, plen, pop, px, py, kd, hm, lk, ht, sl, path, 0, I, mb_M_rf, fun post K => ?_⟩
      simp (disch := omega) only [wpX_emit, wpX_domainExists, wpX_isRegister, nI_clamp, vp_in_nI, nI_1, nI_add, mb_lt_t, mb_lt_f, mb_le_t, mb_le_f, mb_ne, mb_lt0, mb_le0, mb_m1, mb_m1l, mb_m1g, mb_m1n, mb_x2, mb_x4, mb_x32, mb_lt_4, mb_le_4, mb_ge_4, mb_gt_4, mb_le_3, mb_gt_3, mb_le_7, mb_gt_7, mb_lt_32, mb_ge_32, mb_lt_128, mb_ge_128, mb_ge_1, mb_lt_1, mb_ge_1f, mb_lt_1t, not_true, not_false_iff, false_implies, true_implies, true_and, and_true, forall_eq, forall_const, eq_self, mb_e10, z1, z2, z3, z4]
      exact K
    · rcases mb_ix4 v3 with ⟨z1, z2⟩ | ⟨z1, z2, z3, z4, z5, z6⟩ | ⟨x, hx4, rfl⟩
      · refine ⟨nd, c, par, rev, st, pcs, regs, plen, pop, px, py, kd, hm, lk, ht, sl, path, 0, I, mb_M_rf, fun post K => ?_⟩
        simp (disch := omega) only [wpX_emit, wpX_domainExists, wpX_isRegister, nI_clamp, vp_in_nI, nI_1, nI_add, mb_lt_t, mb_lt_f, mb_le_t, mb_le_f, mb_ne, mb_lt0, mb_le0, mb_m1, mb_m1l, mb_m1g, mb_m1n, mb_x2, mb_x4, mb_x32, mb_lt_4, mb_le_4, mb_ge_4, mb_gt_4, mb_le_3, mb_gt_3, mb_le_7, mb_gt_7, mb_lt_32, mb_ge_32, mb_lt_128, mb_ge_128, mb_ge_1, mb_lt_1, mb_ge_1f, mb_lt_1t, not_true, not_false_iff, false_implies, true_implies, true_and, and_true, forall_eq, forall_const, eq_self, mb_e10, z1, z2]
        exact K
      · refine ⟨nd, c, par, rev, st, pcs, regs, plen, pop, px, py, kd, hm, lk, ht, sl, path, 0, I, mb_M_rf, fun post K => ?_⟩
        simp (disch := omega) only [wpX_emit, wpX_domainExists, wpX_isRegister, nI_clamp, vp_in_nI, nI_1, nI_add, mb_lt_t, mb_lt_f, mb_le_t, mb_le_f, mb_ne, mb_lt0, mb_le0, mb_m1, mb_m1l, mb_m1g, mb_m1n, mb_x2, mb_x4, mb_x32, mb_lt_4, mb_le_4, mb_ge_4, mb_gt_4, mb_le_3, mb_gt_3, mb_le_7, mb_gt_7, mb_lt_32, mb_ge_32, mb_lt_128, mb_ge_128, mb_ge_1, mb_lt_1, mb_ge_1f, mb_lt_1t, not_true, not_false_iff, false_implies, true_implies, true_and, and_true, forall_eq, forall_const, eq_self, mb_e10, z1, z2, z3, z4, z5, z6]
        exact K
      · rcases mb_ix4 v4 with ⟨z1, z2⟩ | ⟨z1, z2, z3, z4, z5, z6⟩ | ⟨y, hy4, rfl⟩
        · refine ⟨nd, c, par, rev, st, pcs, regs, plen, pop, px, py, kd, hm, lk, ht, sl, path, 0, I, mb_M_rf, fun post K => ?_⟩
          simp (disch := omega) only [wpX_emit, wpX_domainExists, wpX_isRegister, nI_clamp, vp_in_nI, nI_1, nI_add, mb_lt_t, mb_lt_f, mb_le_t, mb_le_f, mb_ne, mb_lt0, mb_le0, mb_m1, mb_m1l, mb_m1g, mb_m1n, mb_x2, mb_x4, mb_x32, mb_lt_4, mb_le_4, mb_ge_4, mb_gt_4, mb_le_3, mb_gt_3, mb_le_7, mb_gt_7, mb_lt_32, mb_ge_32, mb_lt_128, mb_ge_128, mb_ge_1, mb_lt_1, mb_ge_1f, mb_lt_1t, not_true, not_false_iff, false_implies, true_implies, true_and, and_true, forall_eq, forall_const, eq_self, mb_e10, z1, z2]
          exact K
        · refine ⟨nd, c, par, rev, st, pcs, regs, plen, pop, px, py, kd, hm, lk, ht, sl, path, 0, I, mb_M_rf, fun post K => ?_⟩
          simp (disch := omega) only [wpX_emit, wpX_domainExists, wpX_isRegister, nI_clamp, vp_in_nI, nI_1, nI_add, mb_lt_t, mb_lt_f, mb_le_t, mb_le_f, mb_ne, mb_lt0, mb_le0, mb_m1, mb_m1l, mb_m1g, mb_m1n, mb_x2, mb_x4, mb_x32, mb_lt_4, mb_le_4, mb_ge_4, mb_gt_4, mb_le_3, mb_gt_3, mb_le_7, mb_gt_7, mb_lt_32, mb_ge_32, mb_lt_128, mb_ge_128, mb_ge_1, mb_lt_1, mb_ge_1f, mb_lt_1t, not_true, not_false_iff, false_implies, true_implies, true_and, and_true, forall_eq, forall_const, eq_self, mb_e10, z1, z2, z3, z4, z5, z6]
          exact K
        · obtain ⟨l, q, a1, a2, a3, a4, -⟩ := hG d (by omega)
          by_cases hl : l < p
          · refine ⟨nd, c, par, rev, st, pcs, regs, upd plen d (nI (l + 1)), upd pop (d * 32 + l) (nI o), upd px (d * 32 + l) (nI x), upd py (d * 32 + l) (nI y), kd, hm, lk, ht, sl, path, 1, ⟨H, hn8, hp8, hp, hP, hR, mb_G_emit hG (by omega) a3 (by omega) ho hx4 hy4⟩, mb_M_rf, fun post K => ?_⟩
            simp (disch := omega) only [wpX_emit, wpX_domainExists, wpX_isRegister, nI_clamp, vp_in_nI, nI_1, nI_add, mb_lt_t, mb_lt_f, mb_le_t, mb_le_f, mb_ne, mb_lt0, mb_le0, mb_m1, mb_m1l, mb_m1g, mb_m1n, mb_x2, mb_x4, mb_x32, mb_lt_4, mb_le_4, mb_ge_4, mb_gt_4, mb_le_3, mb_gt_3, mb_le_7, mb_gt_7, mb_lt_32, mb_ge_32, mb_lt_128, mb_ge_128, mb_ge_1, mb_lt_1, mb_ge_1f, mb_lt_1t, not_true, not_false_iff, false_implies, true_implies, true_and, and_true, forall_eq, forall_const, eq_self, mb_e10, a3]
            exact K
          · refine ⟨nd, c, par, rev, st, pcs, regs, plen, pop, px, py, kd, hm, lk, ht, sl, path, 0, I, mb_M_rf, fun post K => ?_⟩
            simp (disch := omega) only [wpX_emit, wpX_domainExists, wpX_isRegister, nI_clamp, vp_in_nI, nI_1, nI_add, mb_lt_t, mb_lt_f, mb_le_t, mb_le_f, mb_ne, mb_lt0, mb_le0, mb_m1, mb_m1l, mb_m1g, mb_m1n, mb_x2, mb_x4, mb_x32, mb_lt_4, mb_le_4, mb_ge_4, mb_gt_4, mb_le_3, mb_gt_3, mb_le_7, mb_gt_7, mb_lt_32, mb_ge_32, mb_lt_128, mb_ge_128, mb_ge_1, mb_lt_1, mb_ge_1f, mb_lt_1t, not_true, not_false_iff, false_implies, true_implies, true_and, and_true, forall_eq, forall_const, eq_self, mb_e10, a3]
            exact K
theorem mb_c_give (I : mb_I n p nd c par pcs regs plen pop px py kd hm lk sl) (v1 : Int32) (v2 : Int32) (v3 : Int32) (rev st ht path : Nat → Int32) : ∃ (nd' c' : Nat) (par' rev' st' pcs' regs' plen' pop' px' py' kd' hm' lk' ht' sl' path' : Nat → Int32) (r : Int32), mb_I n p nd' c' par' pcs' regs' plen' pop' px' py' kd' hm' lk' sl' ∧ mb_M nd rev nd' rev' ∧ (∀ post : Int32 → St2 → Prop, post r (nI n, nI p, nI nd', nI c', par', rev', st', pcs', regs', plen', pop', px', py', kd', hm', lk', ht', sl', path') → wpX_give post (nI n, nI p, nI nd, nI c, par, rev, st, pcs, regs, plen, pop, px, py, kd, hm, lk, ht, sl, path) v1 v2 v3) := by
  obtain ⟨H, hn8, hp8, hp, hP, hR, hG⟩ := id I
  have hn : n ≤ 32 := H.2.1
  have hcn : c ≤ n := H.1
  have hnd : nd ≤ 4 := H.2.2.2.1
  have hnd1 : 1 ≤ nd := H.2.2.1
  have m1 : (-1 : Int32) ≤ -1 := by decide
  have m3 : ¬ (-1 : Int32) ≤ -3 := by decide
  have m4 : ¬ (-1 : Int32) ≤ -4 := by decide
  rcases mb_ix v1 (n := nd) (by omega) with ⟨z1, z2⟩ | ⟨z1, z2, z3, z4⟩ | ⟨d, hd, rfl⟩
  · refine ⟨nd, c, par, rev, st, pcs, regs, plen, pop, px, py, kd, hm, lk, ht, sl, path, 0, I, mb_M_rf, fun post K => ?_⟩
    simp (disch := omega) only [wpX_give, wpX_domainExists, wpX_isRegister, nI_clamp, vp_in_nI, nI_1, nI_add, mb_lt_t, mb_lt_f, mb_le_t, mb_le_f, mb_ne, mb_lt0, mb_le0, mb_m1, mb_m1l, mb_m1g, mb_m1n, mb_x2, mb_x4, mb_x32, mb_lt_4, mb_le_4, mb_ge_4, mb_gt_4, mb_le_3, mb_gt_3, mb_le_7, mb_gt_7, mb_lt_32, mb_ge_32, mb_lt_128, mb_ge_128, mb_ge_1, mb_lt_1, mb_ge_1f, mb_lt_1t, not_true, not_false_iff, false_implies, true_implies, true_and, and_true, forall_eq, forall_const, eq_self, mb_e10, z1, z2]
    exact K
  · refine ⟨nd, c, par, rev, st, pcs, regs, plen, pop, px, py, kd, hm, lk, ht, sl, path, 0, I, mb_M_rf, fun post K => ?_⟩
    simp (disch := omega) only [wpX_give, wpX_domainExists, wpX_isRegister, nI_clamp, vp_in_nI, nI_1, nI_add, mb_lt_t, mb_lt_f, mb_le_t, mb_le_f, mb_ne, mb_lt0, mb_le0, mb_m1, mb_m1l, mb_m1g, mb_m1n, mb_x2, mb_x4, mb_x32, mb_lt_4, mb_le_4, mb_ge_4, mb_gt_4, mb_le_3, mb_gt_3, mb_le_7, mb_gt_7, mb_lt_32, mb_ge_32, mb_lt_128, mb_ge_128, mb_ge_1, mb_lt_1, mb_ge_1f, mb_lt_1t, not_true, not_false_iff, false_implies, true_implies, true_and, and_true, forall_eq, forall_const, eq_self, mb_e10, z1, z2, z3, z4]
    exact K
  · rcases mb_ix4 v2 with ⟨z1, z2⟩ | ⟨z1, z2, z3, z4, z5, z6⟩ | ⟨r, hr, rfl⟩
    · refine ⟨nd, c, par, rev, st, pcs, regs, plen, pop, px, py, kd, hm, lk, ht, sl, path, 0, I, mb_M_rf, fun post K => ?_⟩
      simp (disch := omega) only [wpX_give, wpX_domainExists, wpX_isRegister, nI_clamp, vp_in_nI, nI_1, nI_add, mb_lt_t, mb_lt_f, mb_le_t, mb_le_f, mb_ne, mb_lt0, mb_le0, mb_m1, mb_m1l, mb_m1g, mb_m1n, mb_x2, mb_x4, mb_x32, mb_lt_4, mb_le_4, mb_ge_4, mb_gt_4, mb_le_3, mb_gt_3, mb_le_7, mb_gt_7, mb_lt_32, mb_ge_32, mb_lt_128, mb_ge_128, mb_ge_1, mb_lt_1, mb_ge_1f, mb_lt_1t, not_true, not_false_iff, false_implies, true_implies, true_and, and_true, forall_eq, forall_const, eq_self, mb_e10, z1, z2]
      exact K
    · refine ⟨nd, c, par, rev, st, pcs, regs, plen, pop, px, py, kd, hm, lk, ht, sl, path, 0, I, mb_M_rf, fun post K => ?_⟩
      simp (disch := omega) only [wpX_give, wpX_domainExists, wpX_isRegister, nI_clamp, vp_in_nI, nI_1, nI_add, mb_lt_t, mb_lt_f, mb_le_t, mb_le_f, mb_ne, mb_lt0, mb_le0, mb_m1, mb_m1l, mb_m1g, mb_m1n, mb_x2, mb_x4, mb_x32, mb_lt_4, mb_le_4, mb_ge_4, mb_gt_4, mb_le_3, mb_gt_3, mb_le_7, mb_gt_7, mb_lt_32, mb_ge_32, mb_lt_128, mb_ge_128, mb_ge_1, mb_lt_1, mb_ge_1f, mb_lt_1t, not_true, not_false_iff, false_implies, true_implies, true_and, and_true, forall_eq, forall_const, eq_self, mb_e10, z1, z2, z3, z4, z5, z6]
      exact K
    · by_cases w : v3 = -1
      · subst w
        refine ⟨nd, c, par, rev, st, pcs, upd regs (d * 4 + r) (-1), plen, pop, px, py, kd, hm, lk, ht, sl, path, 1, ⟨H, hn8, hp8, hp, hP, mb_R_set hR hd hr (Or.inl rfl), hG⟩, mb_M_rf, fun post K => ?_⟩
        simp (disch := omega) only [wpX_give, wpX_domainExists, wpX_isRegister, nI_clamp, vp_in_nI, nI_1, nI_add, mb_lt_t, mb_lt_f, mb_le_t, mb_le_f, mb_ne, mb_lt0, mb_le0, mb_m1, mb_m1l, mb_m1g, mb_m1n, mb_x2, mb_x4, mb_x32, mb_lt_4, mb_le_4, mb_ge_4, mb_gt_4, mb_le_3, mb_gt_3, mb_le_7, mb_gt_7, mb_lt_32, mb_ge_32, mb_lt_128, mb_ge_128, mb_ge_1, mb_lt_1, mb_ge_1f, mb_lt_1t, not_true, not_false_iff, false_implies, true_implies, true_and, and_true, forall_eq, forall_const, eq_self, mb_e10, wX_give_43, wpX_isFault, m1]
        exact K
      · rcases mb_ix v3 (n := c) (by omega) with ⟨z1, z2⟩ | ⟨z1, z2, z3, z4⟩ | ⟨j, hj, rfl⟩
        · refine ⟨nd, c, par, rev, st, pcs, regs, plen, pop, px, py, kd, hm, lk, ht, sl, path, 0, I, mb_M_rf, fun post K => ?_⟩
          simp (disch := omega) only [wpX_give, wpX_domainExists, wpX_isRegister, nI_clamp, vp_in_nI, nI_1, nI_add, mb_lt_t, mb_lt_f, mb_le_t, mb_le_f, mb_ne, mb_lt0, mb_le0, mb_m1, mb_m1l, mb_m1g, mb_m1n, mb_x2, mb_x4, mb_x32, mb_lt_4, mb_le_4, mb_ge_4, mb_gt_4, mb_le_3, mb_gt_3, mb_le_7, mb_gt_7, mb_lt_32, mb_ge_32, mb_lt_128, mb_ge_128, mb_ge_1, mb_lt_1, mb_ge_1f, mb_lt_1t, not_true, not_false_iff, false_implies, true_implies, true_and, and_true, forall_eq, forall_const, eq_self, mb_e10, wpX_objectExists, w, z1, z2]
          exact K
        · refine ⟨nd, c, par, rev, st, pcs, regs, plen, pop, px, py, kd, hm, lk, ht, sl, path, 0, I, mb_M_rf, fun post K => ?_⟩
          simp (disch := omega) only [wpX_give, wpX_domainExists, wpX_isRegister, nI_clamp, vp_in_nI, nI_1, nI_add, mb_lt_t, mb_lt_f, mb_le_t, mb_le_f, mb_ne, mb_lt0, mb_le0, mb_m1, mb_m1l, mb_m1g, mb_m1n, mb_x2, mb_x4, mb_x32, mb_lt_4, mb_le_4, mb_ge_4, mb_gt_4, mb_le_3, mb_gt_3, mb_le_7, mb_gt_7, mb_lt_32, mb_ge_32, mb_lt_128, mb_ge_128, mb_ge_1, mb_lt_1, mb_ge_1f, mb_lt_1t, not_true, not_false_iff, false_implies, true_implies, true_and, and_true, forall_eq, forall_const, eq_self, mb_e10, wpX_objectExists, w, z1, z2, z3, z4]
          exact K
        · obtain ⟨h, hh, ehm, -⟩ := mb_H_ob H hj
          by_cases hne : h = d
          · subst hne
            refine ⟨nd, c, par, rev, st, pcs, upd regs (h * 4 + r) (nI j), plen, pop, px, py, kd, hm, lk, ht, sl, path, 1, ⟨H, hn8, hp8, hp, hP, mb_R_set hR hd hr (Or.inr ⟨j, hj, rfl, ehm⟩), hG⟩, mb_M_rf, fun post K => ?_⟩
            simp (disch := omega) only [wpX_give, wpX_domainExists, wpX_isRegister, nI_clamp, vp_in_nI, nI_1, nI_add, mb_lt_t, mb_lt_f, mb_le_t, mb_le_f, mb_ne, mb_lt0, mb_le0, mb_m1, mb_m1l, mb_m1g, mb_m1n, mb_x2, mb_x4, mb_x32, mb_lt_4, mb_le_4, mb_ge_4, mb_gt_4, mb_le_3, mb_gt_3, mb_le_7, mb_gt_7, mb_lt_32, mb_ge_32, mb_lt_128, mb_ge_128, mb_ge_1, mb_lt_1, mb_ge_1f, mb_lt_1t, not_true, not_false_iff, false_implies, true_implies, true_and, and_true, forall_eq, forall_const, eq_self, mb_e10, wpX_objectExists, wpX_bring, wX_give_43, wpX_isFault, ehm]
            exact K
          · by_cases a : par h = nI d ∨ par d = nI h
            · have hmx := mb_mx_lt (d := 4) (show h < 4 by omega) (show d < 4 by omega)
              by_cases rv : rev (mb_mx h d) = 0
              · obtain ⟨c1, kd1, hm1, lk1, ht1, sl1, aX, H1, E1, F1, hA, cX⟩ := mb_carry H (Or.inr ⟨j, hj, rfl, ehm⟩) hh hd a ht
                have hc1 : c1 ≤ 32 := Nat.le_trans H1.1 H1.2.1
                rcases hA with r1 | rfl
                · have q1 := mb_rf_le r1 hc1
                  refine ⟨nd, c1, par, rev, st, pcs, upd regs (d * 4 + r) aX, plen, pop, px, py, kd1, hm1, lk1, ht1, sl1, path, 1, ⟨H1, hn8, hp8, hp, hP, mb_R_set (mb_R_up hR E1) hd hr r1, hG⟩, mb_M_rf, fun post K => ?_⟩
                  simp (disch := omega) only [wpX_give, wpX_domainExists, wpX_isRegister, wpX_objectExists, wpX_bring, nI_clamp, vp_in_nI, nI_1, nI_add, mb_lt_t, mb_lt_f, mb_le_t, mb_le_f, mb_ne, mb_lt0, mb_le0, mb_m1, mb_m1l, mb_m1g, mb_m1n, mb_x2, mb_x4, mb_x32, mb_lt_4, mb_le_4, mb_ge_4, mb_gt_4, mb_le_3, mb_gt_3, mb_le_7, mb_gt_7, mb_lt_32, mb_ge_32, mb_lt_128, mb_ge_128, mb_ge_1, mb_lt_1, mb_ge_1f, mb_lt_1t, not_true, not_false_iff, false_implies, true_implies, true_and, and_true, forall_eq, forall_const, eq_self, mb_e10, ehm]
                  refine mx_adj (by omega) (by omega) a ?_
                  simp (disch := omega) only [mx_mbE, nI_clamp, vp_in_nI, nI_1, nI_add, mb_lt_t, mb_lt_f, mb_le_t, mb_le_f, mb_ne, mb_lt0, mb_le0, mb_m1, mb_m1l, mb_m1g, mb_m1n, mb_x2, mb_x4, mb_x32, mb_lt_4, mb_le_4, mb_ge_4, mb_gt_4, mb_le_3, mb_gt_3, mb_le_7, mb_gt_7, mb_lt_32, mb_ge_32, mb_lt_128, mb_ge_128, mb_ge_1, mb_lt_1, mb_ge_1f, mb_lt_1t, not_true, not_false_iff, false_implies, true_implies, true_and, and_true, forall_eq, forall_const, eq_self, mb_e10, rv]
                  refine cX p rev st pcs regs plen pop px py path _ ?_
                  simp (disch := omega) only [wX_give_43, wpX_isFault, nI_clamp, vp_in_nI, nI_1, nI_add, mb_lt_t, mb_lt_f, mb_le_t, mb_le_f, mb_ne, mb_lt0, mb_le0, mb_m1, mb_m1l, mb_m1g, mb_m1n, mb_x2, mb_x4, mb_x32, mb_lt_4, mb_le_4, mb_ge_4, mb_gt_4, mb_le_3, mb_gt_3, mb_le_7, mb_gt_7, mb_lt_32, mb_ge_32, mb_lt_128, mb_ge_128, mb_ge_1, mb_lt_1, mb_ge_1f, mb_lt_1t, not_true, not_false_iff, false_implies, true_implies, true_and, and_true, forall_eq, forall_const, eq_self, mb_e10, q1]
                  exact K
                · refine ⟨nd, c1, par, rev, st, pcs, regs, plen, pop, px, py, kd1, hm1, lk1, ht1, sl1, path, 0, ⟨H1, hn8, hp8, hp, hP, mb_R_up hR E1, hG⟩, mb_M_rf, fun post K => ?_⟩
                  simp (disch := omega) only [wpX_give, wpX_domainExists, wpX_isRegister, wpX_objectExists, wpX_bring, nI_clamp, vp_in_nI, nI_1, nI_add, mb_lt_t, mb_lt_f, mb_le_t, mb_le_f, mb_ne, mb_lt0, mb_le0, mb_m1, mb_m1l, mb_m1g, mb_m1n, mb_x2, mb_x4, mb_x32, mb_lt_4, mb_le_4, mb_ge_4, mb_gt_4, mb_le_3, mb_gt_3, mb_le_7, mb_gt_7, mb_lt_32, mb_ge_32, mb_lt_128, mb_ge_128, mb_ge_1, mb_lt_1, mb_ge_1f, mb_lt_1t, not_true, not_false_iff, false_implies, true_implies, true_and, and_true, forall_eq, forall_const, eq_self, mb_e10, ehm]
                  refine mx_adj (by omega) (by omega) a ?_
                  simp (disch := omega) only [mx_mbE, nI_clamp, vp_in_nI, nI_1, nI_add, mb_lt_t, mb_lt_f, mb_le_t, mb_le_f, mb_ne, mb_lt0, mb_le0, mb_m1, mb_m1l, mb_m1g, mb_m1n, mb_x2, mb_x4, mb_x32, mb_lt_4, mb_le_4, mb_ge_4, mb_gt_4, mb_le_3, mb_gt_3, mb_le_7, mb_gt_7, mb_lt_32, mb_ge_32, mb_lt_128, mb_ge_128, mb_ge_1, mb_lt_1, mb_ge_1f, mb_lt_1t, not_true, not_false_iff, false_implies, true_implies, true_and, and_true, forall_eq, forall_const, eq_self, mb_e10, rv]
                  refine cX p rev st pcs regs plen pop px py path _ ?_
                  simp (disch := omega) only [wX_give_43, wpX_isFault, nI_clamp, vp_in_nI, nI_1, nI_add, mb_lt_t, mb_lt_f, mb_le_t, mb_le_f, mb_ne, mb_lt0, mb_le0, mb_m1, mb_m1l, mb_m1g, mb_m1n, mb_x2, mb_x4, mb_x32, mb_lt_4, mb_le_4, mb_ge_4, mb_gt_4, mb_le_3, mb_gt_3, mb_le_7, mb_gt_7, mb_lt_32, mb_ge_32, mb_lt_128, mb_ge_128, mb_ge_1, mb_lt_1, mb_ge_1f, mb_lt_1t, not_true, not_false_iff, false_implies, true_implies, true_and, and_true, forall_eq, forall_const, eq_self, mb_e10, m4]
                  exact K
              · refine ⟨nd, c, par, rev, st, pcs, regs, plen, pop, px, py, kd, hm, lk, ht, sl, path, 0, I, mb_M_rf, fun post K => ?_⟩
                simp (disch := omega) only [wpX_give, wpX_domainExists, wpX_isRegister, wpX_objectExists, wpX_bring, nI_clamp, vp_in_nI, nI_1, nI_add, mb_lt_t, mb_lt_f, mb_le_t, mb_le_f, mb_ne, mb_lt0, mb_le0, mb_m1, mb_m1l, mb_m1g, mb_m1n, mb_x2, mb_x4, mb_x32, mb_lt_4, mb_le_4, mb_ge_4, mb_gt_4, mb_le_3, mb_gt_3, mb_le_7, mb_gt_7, mb_lt_32, mb_ge_32, mb_lt_128, mb_ge_128, mb_ge_1, mb_lt_1, mb_ge_1f, mb_lt_1t, not_true, not_false_iff, false_implies, true_implies, true_and, and_true, forall_eq, forall_const, eq_self, mb_e10, ehm]
                refine mx_adj (by omega) (by omega) a ?_
                simp (disch := omega) only [mx_mbE, wX_give_43, wpX_isFault, nI_clamp, vp_in_nI, nI_1, nI_add, mb_lt_t, mb_lt_f, mb_le_t, mb_le_f, mb_ne, mb_lt0, mb_le0, mb_m1, mb_m1l, mb_m1g, mb_m1n, mb_x2, mb_x4, mb_x32, mb_lt_4, mb_le_4, mb_ge_4, mb_gt_4, mb_le_3, mb_gt_3, mb_le_7, mb_gt_7, mb_lt_32, mb_ge_32, mb_lt_128, mb_ge_128, mb_ge_1, mb_lt_1, mb_ge_1f, mb_lt_1t, not_true, not_false_iff, false_implies, true_implies, true_and, and_true, forall_eq, forall_const, eq_self, mb_e10, rv, m3]
                exact K
            · refine ⟨nd, c, par, rev, st, pcs, regs, plen, pop, px, py, kd, hm, lk, ht, sl, path, 0, I, mb_M_rf, fun post K => ?_⟩
              simp (disch := omega) only [wpX_give, wpX_domainExists, wpX_isRegister, wpX_objectExists, wpX_bring, nI_clamp, vp_in_nI, nI_1, nI_add, mb_lt_t, mb_lt_f, mb_le_t, mb_le_f, mb_ne, mb_lt0, mb_le0, mb_m1, mb_m1l, mb_m1g, mb_m1n, mb_x2, mb_x4, mb_x32, mb_lt_4, mb_le_4, mb_ge_4, mb_gt_4, mb_le_3, mb_gt_3, mb_le_7, mb_gt_7, mb_lt_32, mb_ge_32, mb_lt_128, mb_ge_128, mb_ge_1, mb_lt_1, mb_ge_1f, mb_lt_1t, not_true, not_false_iff, false_implies, true_implies, true_and, and_true, forall_eq, forall_const, eq_self, mb_e10, ehm]
              refine mx_nadj (by omega) (by omega) a ?_
              simp (disch := omega) only [wX_give_43, wpX_isFault, nI_clamp, vp_in_nI, nI_1, nI_add, mb_lt_t, mb_lt_f, mb_le_t, mb_le_f, mb_ne, mb_lt0, mb_le0, mb_m1, mb_m1l, mb_m1g, mb_m1n, mb_x2, mb_x4, mb_x32, mb_lt_4, mb_le_4, mb_ge_4, mb_gt_4, mb_le_3, mb_gt_3, mb_le_7, mb_gt_7, mb_lt_32, mb_ge_32, mb_lt_128, mb_ge_128, mb_ge_1, mb_lt_1, mb_ge_1f, mb_lt_1t, not_true, not_false_iff, false_implies, true_implies, true_and, and_true, forall_eq, forall_const, eq_self, mb_e10, m3]
              exact K
theorem mb_c_run (I : mb_I n p nd c par pcs regs plen pop px py kd hm lk sl) (v1 v2 : Int32) (rev st ht path : Nat → Int32) : ∃ (nd' c' : Nat) (par' rev' st' pcs' regs' plen' pop' px' py' kd' hm' lk' ht' sl' path' : Nat → Int32) (r : Int32), mb_I n p nd' c' par' pcs' regs' plen' pop' px' py' kd' hm' lk' sl' ∧ mb_M nd rev nd' rev' ∧
    (nd' = nd ∧ mb_E c kd hm lk c' kd' hm' lk' ∧ ∀ S : Int32 → Prop, mb_cl par rev nd S → S v1 → mb_Fr S c hm ht sl ht' sl' ∧ mb_Fg S nd regs regs') ∧
    (∀ post : Int32 → St2 → Prop, post r (nI n, nI p, nI nd', nI c', par', rev', st', pcs', regs', plen', pop', px', py', kd', hm', lk', ht', sl', path') → wpX_run post (nI n, nI p, nI nd, nI c, par, rev, st, pcs, regs, plen, pop, px, py, kd, hm, lk, ht, sl, path) v1 v2) := by
  obtain ⟨H, hn8, hp8, hp, hP, hR, hG⟩ := id I
  have hn : n ≤ 32 := H.2.1
  have hcn : c ≤ n := H.1
  have hnd : nd ≤ 4 := H.2.2.2.1
  have hnd1 : 1 ≤ nd := H.2.2.1
  rcases mb_ix v1 (n := nd) (by omega) with ⟨z1, z2⟩ | ⟨z1, z2, z3, z4⟩ | ⟨d, hd, rfl⟩
  · refine ⟨nd, c, par, rev, st, pcs, regs, plen, pop, px, py, kd, hm, lk, ht, sl, path, -1, I, mb_M_rf, ⟨rfl, mb_E_rf, fun S _ _ => ⟨mb_Fr_rf, mb_Fg_rf⟩⟩, fun post K => ?_⟩
    simp (disch := omega) only [wpX_run, wpX_domainExists, nI_clamp, vp_in_nI, nI_1, nI_add, mb_lt_t, mb_lt_f, mb_le_t, mb_le_f, mb_ne, mb_lt0, mb_le0, mb_m1, mb_m1l, mb_m1g, mb_m1n, mb_x2, mb_x4, mb_x32, mb_lt_4, mb_le_4, mb_ge_4, mb_gt_4, mb_le_3, mb_gt_3, mb_le_7, mb_gt_7, mb_lt_32, mb_ge_32, mb_lt_128, mb_ge_128, mb_ge_1, mb_lt_1, mb_ge_1f, mb_lt_1t, not_true, not_false_iff, false_implies, true_implies, true_and, and_true, forall_eq, forall_const, eq_self, mb_e10, z1, z2]
    exact K
  · refine ⟨nd, c, par, rev, st, pcs, regs, plen, pop, px, py, kd, hm, lk, ht, sl, path, -1, I, mb_M_rf, ⟨rfl, mb_E_rf, fun S _ _ => ⟨mb_Fr_rf, mb_Fg_rf⟩⟩, fun post K => ?_⟩
    simp (disch := omega) only [wpX_run, wpX_domainExists, nI_clamp, vp_in_nI, nI_1, nI_add, mb_lt_t, mb_lt_f, mb_le_t, mb_le_f, mb_ne, mb_lt0, mb_le0, mb_m1, mb_m1l, mb_m1g, mb_m1n, mb_x2, mb_x4, mb_x32, mb_lt_4, mb_le_4, mb_ge_4, mb_gt_4, mb_le_3, mb_gt_3, mb_le_7, mb_gt_7, mb_lt_32, mb_ge_32, mb_lt_128, mb_ge_128, mb_ge_1, mb_lt_1, mb_ge_1f, mb_lt_1t, not_true, not_false_iff, false_implies, true_implies, true_and, and_true, forall_eq, forall_const, eq_self, mb_e10, z1, z2, z3, z4]
    exact K
  · by_cases r : st d = 0
    · obtain ⟨l, q, a1, a2, a3, a4, -⟩ := hG d (by omega)
      obtain ⟨c', kd', hm', lk', ht', sl', rev', st', pcs', regs', path', r', I2, E2, V2, F2, jX⟩ := mb_run (st := st) hd v2 (l - q) c rev pcs regs kd hm lk ht sl path l q 0 I a3 a4 a1 a2 (Nat.le_refl _)
      refine ⟨nd, c', par, rev', st', pcs', regs', plen, pop, px, py, kd', hm', lk', ht', sl', path', r', I2, ⟨Nat.le_refl _, fun m _ h => V2.1 m h⟩, ⟨rfl, E2, F2⟩, fun post K => ?_⟩
      simp (disch := omega) only [wpX_run, wpX_domainExists, nI_clamp, vp_in_nI, nI_1, nI_add, mb_lt_t, mb_lt_f, mb_le_t, mb_le_f, mb_ne, mb_lt0, mb_le0, mb_m1, mb_m1l, mb_m1g, mb_m1n, mb_x2, mb_x4, mb_x32, mb_lt_4, mb_le_4, mb_ge_4, mb_gt_4, mb_le_3, mb_gt_3, mb_le_7, mb_gt_7, mb_lt_32, mb_ge_32, mb_lt_128, mb_ge_128, mb_ge_1, mb_lt_1, mb_ge_1f, mb_lt_1t, not_true, not_false_iff, false_implies, true_implies, true_and, and_true, forall_eq, forall_const, eq_self, mb_e10, r]
      exact ⟨l - q + 1, jX _ K (l - q + 1) (by omega)⟩
    · refine ⟨nd, c, par, rev, st, pcs, regs, plen, pop, px, py, kd, hm, lk, ht, sl, path, -1, I, mb_M_rf, ⟨rfl, mb_E_rf, fun S _ _ => ⟨mb_Fr_rf, mb_Fg_rf⟩⟩, fun post K => ?_⟩
      simp (disch := omega) only [wpX_run, wpX_domainExists, nI_clamp, vp_in_nI, nI_1, nI_add, mb_lt_t, mb_lt_f, mb_le_t, mb_le_f, mb_ne, mb_lt0, mb_le0, mb_m1, mb_m1l, mb_m1g, mb_m1n, mb_x2, mb_x4, mb_x32, mb_lt_4, mb_le_4, mb_ge_4, mb_gt_4, mb_le_3, mb_gt_3, mb_le_7, mb_gt_7, mb_lt_32, mb_ge_32, mb_lt_128, mb_ge_128, mb_ge_1, mb_lt_1, mb_ge_1f, mb_lt_1t, not_true, not_false_iff, false_implies, true_implies, true_and, and_true, forall_eq, forall_const, eq_self, mb_e10, r]
      exact K
end
end
section
section
variable {n p nd c : Nat} {par rev st pcs regs plen pop px py kd hm lk ht sl path : Nat → Int32} {post : Int32 → Prop}
theorem mx_kind_t {i : Nat} (hi : i < c) (hc : c ≤ 32) : wpX_kind post (nI n, nI p, nI nd, nI c, par, rev, st, pcs, regs, plen, pop, px, py, kd, hm, lk, ht, sl, path) (nI i) = post (kd i) := by
  simp (disch := omega) only [wpX_kind, wpX_objectExists, nI_clamp, vp_in_nI, nI_1, nI_add, mb_lt_t, mb_lt_f, mb_le_t, mb_le_f, mb_ne, mb_lt0, mb_le0, mb_m1, mb_m1l, mb_m1g, mb_m1n, mb_x2, mb_x4, mb_x32, mb_lt_4, mb_le_4, mb_ge_4, mb_gt_4, mb_le_3, mb_gt_3, mb_le_7, mb_gt_7, mb_lt_32, mb_ge_32, mb_lt_128, mb_ge_128, mb_ge_1, mb_lt_1, mb_ge_1f, mb_lt_1t, not_true, not_false_iff, false_implies, true_implies, true_and, and_true, forall_eq, forall_const, eq_self, mb_e10]
theorem mx_kind_f {i : Nat} (hi : c ≤ i) (h2 : i < 2 ^ 31) : wpX_kind post (nI n, nI p, nI nd, nI c, par, rev, st, pcs, regs, plen, pop, px, py, kd, hm, lk, ht, sl, path) (nI i) = post 0 := by
  simp (disch := omega) only [wpX_kind, wpX_objectExists, nI_clamp, vp_in_nI, nI_1, nI_add, mb_lt_t, mb_lt_f, mb_le_t, mb_le_f, mb_ne, mb_lt0, mb_le0, mb_m1, mb_m1l, mb_m1g, mb_m1n, mb_x2, mb_x4, mb_x32, mb_lt_4, mb_le_4, mb_ge_4, mb_gt_4, mb_le_3, mb_gt_3, mb_le_7, mb_gt_7, mb_lt_32, mb_ge_32, mb_lt_128, mb_ge_128, mb_ge_1, mb_lt_1, mb_ge_1f, mb_lt_1t, not_true, not_false_iff, false_implies, true_implies, true_and, and_true, forall_eq, forall_const, eq_self, mb_e10]
theorem mx_home_t {i : Nat} (hi : i < c) (hc : c ≤ 32) : wpX_home post (nI n, nI p, nI nd, nI c, par, rev, st, pcs, regs, plen, pop, px, py, kd, hm, lk, ht, sl, path) (nI i) = post (hm i) := by
  simp (disch := omega) only [wpX_home, wpX_objectExists, nI_clamp, vp_in_nI, nI_1, nI_add, mb_lt_t, mb_lt_f, mb_le_t, mb_le_f, mb_ne, mb_lt0, mb_le0, mb_m1, mb_m1l, mb_m1g, mb_m1n, mb_x2, mb_x4, mb_x32, mb_lt_4, mb_le_4, mb_ge_4, mb_gt_4, mb_le_3, mb_gt_3, mb_le_7, mb_gt_7, mb_lt_32, mb_ge_32, mb_lt_128, mb_ge_128, mb_ge_1, mb_lt_1, mb_ge_1f, mb_lt_1t, not_true, not_false_iff, false_implies, true_implies, true_and, and_true, forall_eq, forall_const, eq_self, mb_e10]
theorem mx_link_t {i : Nat} (hi : i < c) (hc : c ≤ 32) : wpX_link post (nI n, nI p, nI nd, nI c, par, rev, st, pcs, regs, plen, pop, px, py, kd, hm, lk, ht, sl, path) (nI i) = post (lk i) := by
  simp (disch := omega) only [wpX_link, wpX_objectExists, nI_clamp, vp_in_nI, nI_1, nI_add, mb_lt_t, mb_lt_f, mb_le_t, mb_le_f, mb_ne, mb_lt0, mb_le0, mb_m1, mb_m1l, mb_m1g, mb_m1n, mb_x2, mb_x4, mb_x32, mb_lt_4, mb_le_4, mb_ge_4, mb_gt_4, mb_le_3, mb_gt_3, mb_le_7, mb_gt_7, mb_lt_32, mb_ge_32, mb_lt_128, mb_ge_128, mb_ge_1, mb_lt_1, mb_ge_1f, mb_lt_1t, not_true, not_false_iff, false_implies, true_implies, true_and, and_true, forall_eq, forall_const, eq_self, mb_e10]
theorem mx_hits_t {i : Nat} (hi : i < c) (hc : c ≤ 32) : wpX_hits post (nI n, nI p, nI nd, nI c, par, rev, st, pcs, regs, plen, pop, px, py, kd, hm, lk, ht, sl, path) (nI i) = post (ht i) := by
  simp (disch := omega) only [wpX_hits, wpX_objectExists, nI_clamp, vp_in_nI, nI_1, nI_add, mb_lt_t, mb_lt_f, mb_le_t, mb_le_f, mb_ne, mb_lt0, mb_le0, mb_m1, mb_m1l, mb_m1g, mb_m1n, mb_x2, mb_x4, mb_x32, mb_lt_4, mb_le_4, mb_ge_4, mb_gt_4, mb_le_3, mb_gt_3, mb_le_7, mb_gt_7, mb_lt_32, mb_ge_32, mb_lt_128, mb_ge_128, mb_ge_1, mb_lt_1, mb_ge_1f, mb_lt_1t, not_true, not_false_iff, false_implies, true_implies, true_and, and_true, forall_eq, forall_const, eq_self, mb_e10]
theorem mx_par_t {i : Nat} (hi : i < nd) (hc : nd ≤ 4) : wpX_parent post (nI n, nI p, nI nd, nI c, par, rev, st, pcs, regs, plen, pop, px, py, kd, hm, lk, ht, sl, path) (nI i) = post (par i) := by
  simp (disch := omega) only [wpX_parent, wpX_domainExists, nI_clamp, vp_in_nI, nI_1, nI_add, mb_lt_t, mb_lt_f, mb_le_t, mb_le_f, mb_ne, mb_lt0, mb_le0, mb_m1, mb_m1l, mb_m1g, mb_m1n, mb_x2, mb_x4, mb_x32, mb_lt_4, mb_le_4, mb_ge_4, mb_gt_4, mb_le_3, mb_gt_3, mb_le_7, mb_gt_7, mb_lt_32, mb_ge_32, mb_lt_128, mb_ge_128, mb_ge_1, mb_lt_1, mb_ge_1f, mb_lt_1t, not_true, not_false_iff, false_implies, true_implies, true_and, and_true, forall_eq, forall_const, eq_self, mb_e10]
theorem mx_par_f {i : Nat} (hi : nd ≤ i) (h2 : i < 2 ^ 31) : wpX_parent post (nI n, nI p, nI nd, nI c, par, rev, st, pcs, regs, plen, pop, px, py, kd, hm, lk, ht, sl, path) (nI i) = post (-2) := by
  simp (disch := omega) only [wpX_parent, wpX_domainExists, nI_clamp, vp_in_nI, nI_1, nI_add, mb_lt_t, mb_lt_f, mb_le_t, mb_le_f, mb_ne, mb_lt0, mb_le0, mb_m1, mb_m1l, mb_m1g, mb_m1n, mb_x2, mb_x4, mb_x32, mb_lt_4, mb_le_4, mb_ge_4, mb_gt_4, mb_le_3, mb_gt_3, mb_le_7, mb_gt_7, mb_lt_32, mb_ge_32, mb_lt_128, mb_ge_128, mb_ge_1, mb_lt_1, mb_ge_1f, mb_lt_1t, not_true, not_false_iff, false_implies, true_implies, true_and, and_true, forall_eq, forall_const, eq_self, mb_e10]
theorem mx_reg_t {i r : Nat} (hi : i < nd) (hr : r < 4) (hc : nd ≤ 4) : wpX_reg post (nI n, nI p, nI nd, nI c, par, rev, st, pcs, regs, plen, pop, px, py, kd, hm, lk, ht, sl, path) (nI i) (nI r) = post (regs (i * 4 + r)) := by
  simp (disch := omega) only [wpX_reg, wpX_domainExists, wpX_isRegister, nI_clamp, vp_in_nI, nI_1, nI_add, mb_lt_t, mb_lt_f, mb_le_t, mb_le_f, mb_ne, mb_lt0, mb_le0, mb_m1, mb_m1l, mb_m1g, mb_m1n, mb_x2, mb_x4, mb_x32, mb_lt_4, mb_le_4, mb_ge_4, mb_gt_4, mb_le_3, mb_gt_3, mb_le_7, mb_gt_7, mb_lt_32, mb_ge_32, mb_lt_128, mb_ge_128, mb_ge_1, mb_lt_1, mb_ge_1f, mb_lt_1t, not_true, not_false_iff, false_implies, true_implies, true_and, and_true, forall_eq, forall_const, eq_self, mb_e10]
theorem mx_slot_n {i : Nat} {q : Int32} (hi : i < c) (hc : c ≤ 32) (k1 : ¬ kd i = 1) : wpX_slot post (nI n, nI p, nI nd, nI c, par, rev, st, pcs, regs, plen, pop, px, py, kd, hm, lk, ht, sl, path) (nI i) q = post (-1) := by
  simp (disch := omega) only [wpX_slot, wpX_objectExists, nI_clamp, vp_in_nI, nI_1, nI_add, mb_lt_t, mb_lt_f, mb_le_t, mb_le_f, mb_ne, mb_lt0, mb_le0, mb_m1, mb_m1l, mb_m1g, mb_m1n, mb_x2, mb_x4, mb_x32, mb_lt_4, mb_le_4, mb_ge_4, mb_gt_4, mb_le_3, mb_gt_3, mb_le_7, mb_gt_7, mb_lt_32, mb_ge_32, mb_lt_128, mb_ge_128, mb_ge_1, mb_lt_1, mb_ge_1f, mb_lt_1t, not_true, not_false_iff, false_implies, true_implies, true_and, and_true, forall_eq, forall_const, eq_self, mb_e10, k1]
theorem mx_slot_0 {i : Nat} (hi : i < c) (hc : c ≤ 32) (k1 : kd i = 1) : wpX_slot post (nI n, nI p, nI nd, nI c, par, rev, st, pcs, regs, plen, pop, px, py, kd, hm, lk, ht, sl, path) (nI i) 0 = post (sl (i * 2)) := by
  simp (disch := omega) only [wpX_slot, wpX_objectExists, nI_clamp, vp_in_nI, nI_1, nI_add, mb_lt_t, mb_lt_f, mb_le_t, mb_le_f, mb_ne, mb_lt0, mb_le0, mb_m1, mb_m1l, mb_m1g, mb_m1n, mb_x2, mb_x4, mb_x32, mb_lt_4, mb_le_4, mb_ge_4, mb_gt_4, mb_le_3, mb_gt_3, mb_le_7, mb_gt_7, mb_lt_32, mb_ge_32, mb_lt_128, mb_ge_128, mb_ge_1, mb_lt_1, mb_ge_1f, mb_lt_1t, not_true, not_false_iff, false_implies, true_implies, true_and, and_true, forall_eq, forall_const, eq_self, mb_e10, mb_e01, mb_e02, mb_e03, mb_e04, mb_e05, mb_e06, mb_e07, mb_l00, mb_l02, mb_g50, mb_g60, mb_e10, mb_e12, mb_e13, mb_e14, mb_e15, mb_e16, mb_e17, mb_l10, mb_l12, mb_g51, mb_g61, mb_e20, mb_e21, mb_e23, mb_e24, mb_e25, mb_e26, mb_e27, mb_l20, mb_l22, mb_g52, mb_g62, mb_e30, mb_e31, mb_e32, mb_e34, mb_e35, mb_e36, mb_e37, mb_l30, mb_l32, mb_g53, mb_g63, mb_e40, mb_e41, mb_e42, mb_e43, mb_e45, mb_e46, mb_e47, mb_l40, mb_l42, mb_g54, mb_g64, mb_e50, mb_e51, mb_e52, mb_e53, mb_e54, mb_e56, mb_e57, mb_l50, mb_l52, mb_g55, mb_g65, mb_e60, mb_e61, mb_e62, mb_e63, mb_e64, mb_e65, mb_e67, mb_l60, mb_l62, mb_g56, mb_g66, mb_e70, mb_e71, mb_e72, mb_e73, mb_e74, mb_e75, mb_e76, mb_l70, mb_l72, mb_g57, mb_g67, k1, Int32.add_zero, show ¬ (0 : Int32) < 0 from by decide]
theorem mx_slot_1 {i : Nat} (hi : i < c) (hc : c ≤ 32) (k1 : kd i = 1) : wpX_slot post (nI n, nI p, nI nd, nI c, par, rev, st, pcs, regs, plen, pop, px, py, kd, hm, lk, ht, sl, path) (nI i) 1 = post (sl (i * 2 + 1)) := by
  simp (disch := omega) only [wpX_slot, wpX_objectExists, nI_clamp, vp_in_nI, nI_1, nI_add, mb_lt_t, mb_lt_f, mb_le_t, mb_le_f, mb_ne, mb_lt0, mb_le0, mb_m1, mb_m1l, mb_m1g, mb_m1n, mb_x2, mb_x4, mb_x32, mb_lt_4, mb_le_4, mb_ge_4, mb_gt_4, mb_le_3, mb_gt_3, mb_le_7, mb_gt_7, mb_lt_32, mb_ge_32, mb_lt_128, mb_ge_128, mb_ge_1, mb_lt_1, mb_ge_1f, mb_lt_1t, not_true, not_false_iff, false_implies, true_implies, true_and, and_true, forall_eq, forall_const, eq_self, mb_e10, mb_e01, mb_e02, mb_e03, mb_e04, mb_e05, mb_e06, mb_e07, mb_l00, mb_l02, mb_g50, mb_g60, mb_e10, mb_e12, mb_e13, mb_e14, mb_e15, mb_e16, mb_e17, mb_l10, mb_l12, mb_g51, mb_g61, mb_e20, mb_e21, mb_e23, mb_e24, mb_e25, mb_e26, mb_e27, mb_l20, mb_l22, mb_g52, mb_g62, mb_e30, mb_e31, mb_e32, mb_e34, mb_e35, mb_e36, mb_e37, mb_l30, mb_l32, mb_g53, mb_g63, mb_e40, mb_e41, mb_e42, mb_e43, mb_e45, mb_e46, mb_e47, mb_l40, mb_l42, mb_g54, mb_g64, mb_e50, mb_e51, mb_e52, mb_e53, mb_e54, mb_e56, mb_e57, mb_l50, mb_l52, mb_g55, mb_g65, mb_e60, mb_e61, mb_e62, mb_e63, mb_e64, mb_e65, mb_e67, mb_l60, mb_l62, mb_g56, mb_g66, mb_e70, mb_e71, mb_e72, mb_e73, mb_e74, mb_e75, mb_e76, mb_l70, mb_l72, mb_g57, mb_g67, k1]
theorem mx_rvd_t {m : Nat} (h1 : 1 ≤ m) (hm' : m < nd) (hc : nd ≤ 4) (r : ¬ rev m = 0) : wpX_revoked post (nI n, nI p, nI nd, nI c, par, rev, st, pcs, regs, plen, pop, px, py, kd, hm, lk, ht, sl, path) (nI m) = post 1 := by
  simp (disch := omega) only [wpX_revoked, wpX_membraneExists, nI_clamp, vp_in_nI, nI_1, nI_add, mb_lt_t, mb_lt_f, mb_le_t, mb_le_f, mb_ne, mb_lt0, mb_le0, mb_m1, mb_m1l, mb_m1g, mb_m1n, mb_x2, mb_x4, mb_x32, mb_lt_4, mb_le_4, mb_ge_4, mb_gt_4, mb_le_3, mb_gt_3, mb_le_7, mb_gt_7, mb_lt_32, mb_ge_32, mb_lt_128, mb_ge_128, mb_ge_1, mb_lt_1, mb_ge_1f, mb_lt_1t, not_true, not_false_iff, false_implies, true_implies, true_and, and_true, forall_eq, forall_const, eq_self, mb_e10, r]
theorem mx_rvd_f {m : Nat} (h1 : 1 ≤ m) (h2 : m < 4) (hc : nd ≤ 4) (r : m < nd → rev m = 0) : wpX_revoked post (nI n, nI p, nI nd, nI c, par, rev, st, pcs, regs, plen, pop, px, py, kd, hm, lk, ht, sl, path) (nI m) = post 0 := by
  by_cases z : m < nd
  · have r' := r z
    simp (disch := omega) only [wpX_revoked, wpX_membraneExists, nI_clamp, vp_in_nI, nI_1, nI_add, mb_lt_t, mb_lt_f, mb_le_t, mb_le_f, mb_ne, mb_lt0, mb_le0, mb_m1, mb_m1l, mb_m1g, mb_m1n, mb_x2, mb_x4, mb_x32, mb_lt_4, mb_le_4, mb_ge_4, mb_gt_4, mb_le_3, mb_gt_3, mb_le_7, mb_gt_7, mb_lt_32, mb_ge_32, mb_lt_128, mb_ge_128, mb_ge_1, mb_lt_1, mb_ge_1f, mb_lt_1t, not_true, not_false_iff, false_implies, true_implies, true_and, and_true, forall_eq, forall_const, eq_self, mb_e10, r']
  · simp (disch := omega) only [wpX_revoked, wpX_membraneExists, nI_clamp, vp_in_nI, nI_1, nI_add, mb_lt_t, mb_lt_f, mb_le_t, mb_le_f, mb_ne, mb_lt0, mb_le0, mb_m1, mb_m1l, mb_m1g, mb_m1n, mb_x2, mb_x4, mb_x32, mb_lt_4, mb_le_4, mb_ge_4, mb_gt_4, mb_le_3, mb_gt_3, mb_le_7, mb_gt_7, mb_lt_32, mb_ge_32, mb_lt_128, mb_ge_128, mb_ge_1, mb_lt_1, mb_ge_1f, mb_lt_1t, not_true, not_false_iff, false_implies, true_implies, true_and, and_true, forall_eq, forall_const, eq_self, mb_e10]
/-! the subtree of a membrane, as the law reckons it -/
def mb_nx (p1 p2 p3 x : Int32) : Int32 := if x = 1 then p1 else if x = 2 then p2 else p3
def mb_sb (m p1 p2 p3 : Int32) : Nat → Int32 → Prop
  | 0, _ => False
  | k + 1, x => x = m ∨ (¬ x ≤ 0 ∧ x ≤ 3 ∧ mb_sb m p1 p2 p3 k (mb_nx p1 p2 p3 x))
theorem ml_5 {a : Nat} (h : a < 5) : (5 ≤ nI a) = False := eq_false (nI_ge (b := 5) h (by decide))
theorem ml_sub_t {m p1 p2 p3 : Int32} (K : post 1) : ∀ (k : Nat) (x : Int32) (i : Nat), k + i = 5 → mb_sb m p1 p2 p3 k x → wL_inSub_3 post m p1 p2 p3 (k + 1) x (nI i) := by
  intro k
  induction k with
  | zero => intro x i h s; exact s.elim
  | succ k ih =>
    intro x i hi s
    by_cases e : x = m
    · rw [wL_inSub_3]
      simp (disch := omega) only [ml_5, nI_clamp, vp_in_nI, nI_1, nI_add, mb_lt_t, mb_lt_f, mb_le_t, mb_le_f, mb_ne, mb_lt0, mb_le0, mb_m1, mb_m1l, mb_m1g, mb_m1n, mb_x2, mb_x4, mb_x32, mb_lt_4, mb_le_4, mb_ge_4, mb_gt_4, mb_le_3, mb_gt_3, mb_le_7, mb_gt_7, mb_lt_32, mb_ge_32, mb_lt_128, mb_ge_128, mb_ge_1, mb_lt_1, mb_ge_1f, mb_lt_1t, not_true, not_false_iff, false_implies, true_implies, true_and, and_true, forall_eq, forall_const, eq_self, mb_e10, e]
      exact K
    · obtain ⟨a, b, s'⟩ := s.resolve_left e
      have K' := ih _ (i + 1) (by omega) s'
      unfold mb_nx at K'
      by_cases e1 : x = 1
      · rw [if_pos e1] at K'
        rw [wL_inSub_3]
        simp (disch := omega) only [ml_5, nI_clamp, vp_in_nI, nI_1, nI_add, mb_lt_t, mb_lt_f, mb_le_t, mb_le_f, mb_ne, mb_lt0, mb_le0, mb_m1, mb_m1l, mb_m1g, mb_m1n, mb_x2, mb_x4, mb_x32, mb_lt_4, mb_le_4, mb_ge_4, mb_gt_4, mb_le_3, mb_gt_3, mb_le_7, mb_gt_7, mb_lt_32, mb_ge_32, mb_lt_128, mb_ge_128, mb_ge_1, mb_lt_1, mb_ge_1f, mb_lt_1t, not_true, not_false_iff, false_implies, true_implies, true_and, and_true, forall_eq, forall_const, eq_self, mb_e10, e, a, b]
        refine br_t e1 ?_
        exact K'
      · rw [if_neg e1] at K'
        by_cases e2 : x = 2
        · rw [if_pos e2] at K'
          rw [wL_inSub_3]
          simp (disch := omega) only [ml_5, nI_clamp, vp_in_nI, nI_1, nI_add, mb_lt_t, mb_lt_f, mb_le_t, mb_le_f, mb_ne, mb_lt0, mb_le0, mb_m1, mb_m1l, mb_m1g, mb_m1n, mb_x2, mb_x4, mb_x32, mb_lt_4, mb_le_4, mb_ge_4, mb_gt_4, mb_le_3, mb_gt_3, mb_le_7, mb_gt_7, mb_lt_32, mb_ge_32, mb_lt_128, mb_ge_128, mb_ge_1, mb_lt_1, mb_ge_1f, mb_lt_1t, not_true, not_false_iff, false_implies, true_implies, true_and, and_true, forall_eq, forall_const, eq_self, mb_e10, e, a, b]
          refine br_f e1 (br_t e2 ?_)
          exact K'
        · rw [if_neg e2] at K'
          rw [wL_inSub_3]
          simp (disch := omega) only [ml_5, nI_clamp, vp_in_nI, nI_1, nI_add, mb_lt_t, mb_lt_f, mb_le_t, mb_le_f, mb_ne, mb_lt0, mb_le0, mb_m1, mb_m1l, mb_m1g, mb_m1n, mb_x2, mb_x4, mb_x32, mb_lt_4, mb_le_4, mb_ge_4, mb_gt_4, mb_le_3, mb_gt_3, mb_le_7, mb_gt_7, mb_lt_32, mb_ge_32, mb_lt_128, mb_ge_128, mb_ge_1, mb_lt_1, mb_ge_1f, mb_lt_1t, not_true, not_false_iff, false_implies, true_implies, true_and, and_true, forall_eq, forall_const, eq_self, mb_e10, e, a, b]
          refine br_f e1 (br_f e2 ?_)
          exact K'
theorem ml_sub_f {m p1 p2 p3 : Int32} (K : post 0) : ∀ (k : Nat) (x : Int32) (i : Nat), k + i = 5 → ¬ mb_sb m p1 p2 p3 k x → wL_inSub_3 post m p1 p2 p3 (k + 1) x (nI i) := by
  intro k
  induction k with
  | zero =>
    intro x i h s
    have e : i = 5 := by omega
    subst e
    exact br_t (by decide) K
  | succ k ih =>
    intro x i hi s
    have e : ¬ x = m := fun z => s (Or.inl z)
    by_cases a : x ≤ 0
    · rw [wL_inSub_3]
      simp (disch := omega) only [ml_5, nI_clamp, vp_in_nI, nI_1, nI_add, mb_lt_t, mb_lt_f, mb_le_t, mb_le_f, mb_ne, mb_lt0, mb_le0, mb_m1, mb_m1l, mb_m1g, mb_m1n, mb_x2, mb_x4, mb_x32, mb_lt_4, mb_le_4, mb_ge_4, mb_gt_4, mb_le_3, mb_gt_3, mb_le_7, mb_gt_7, mb_lt_32, mb_ge_32, mb_lt_128, mb_ge_128, mb_ge_1, mb_lt_1, mb_ge_1f, mb_lt_1t, not_true, not_false_iff, false_implies, true_implies, true_and, and_true, forall_eq, forall_const, eq_self, mb_e10, e, a]
      exact K
    · by_cases b : x ≤ 3
      · have s' : ¬ mb_sb m p1 p2 p3 k (mb_nx p1 p2 p3 x) := fun z => s (Or.inr ⟨a, b, z⟩)
        have K' := ih _ (i + 1) (by omega) s'
        unfold mb_nx at K'
        by_cases e1 : x = 1
        · rw [if_pos e1] at K'
          rw [wL_inSub_3]
          simp (disch := omega) only [ml_5, nI_clamp, vp_in_nI, nI_1, nI_add, mb_lt_t, mb_lt_f, mb_le_t, mb_le_f, mb_ne, mb_lt0, mb_le0, mb_m1, mb_m1l, mb_m1g, mb_m1n, mb_x2, mb_x4, mb_x32, mb_lt_4, mb_le_4, mb_ge_4, mb_gt_4, mb_le_3, mb_gt_3, mb_le_7, mb_gt_7, mb_lt_32, mb_ge_32, mb_lt_128, mb_ge_128, mb_ge_1, mb_lt_1, mb_ge_1f, mb_lt_1t, not_true, not_false_iff, false_implies, true_implies, true_and, and_true, forall_eq, forall_const, eq_self, mb_e10, e, a, b]
          refine br_t e1 ?_
          exact K'
        · rw [if_neg e1] at K'
          by_cases e2 : x = 2
          · rw [if_pos e2] at K'
            rw [wL_inSub_3]
            simp (disch := omega) only [ml_5, nI_clamp, vp_in_nI, nI_1, nI_add, mb_lt_t, mb_lt_f, mb_le_t, mb_le_f, mb_ne, mb_lt0, mb_le0, mb_m1, mb_m1l, mb_m1g, mb_m1n, mb_x2, mb_x4, mb_x32, mb_lt_4, mb_le_4, mb_ge_4, mb_gt_4, mb_le_3, mb_gt_3, mb_le_7, mb_gt_7, mb_lt_32, mb_ge_32, mb_lt_128, mb_ge_128, mb_ge_1, mb_lt_1, mb_ge_1f, mb_lt_1t, not_true, not_false_iff, false_implies, true_implies, true_and, and_true, forall_eq, forall_const, eq_self, mb_e10, e, a, b]
            refine br_f e1 (br_t e2 ?_)
            exact K'
          · rw [if_neg e2] at K'
            rw [wL_inSub_3]
            simp (disch := omega) only [ml_5, nI_clamp, vp_in_nI, nI_1, nI_add, mb_lt_t, mb_lt_f, mb_le_t, mb_le_f, mb_ne, mb_lt0, mb_le0, mb_m1, mb_m1l, mb_m1g, mb_m1n, mb_x2, mb_x4, mb_x32, mb_lt_4, mb_le_4, mb_ge_4, mb_gt_4, mb_le_3, mb_gt_3, mb_le_7, mb_gt_7, mb_lt_32, mb_ge_32, mb_lt_128, mb_ge_128, mb_ge_1, mb_lt_1, mb_ge_1f, mb_lt_1t, not_true, not_false_iff, false_implies, true_implies, true_and, and_true, forall_eq, forall_const, eq_self, mb_e10, e, a, b]
            refine br_f e1 (br_f e2 ?_)
            exact K'
      · rw [wL_inSub_3]
        simp (disch := omega) only [ml_5, nI_clamp, vp_in_nI, nI_1, nI_add, mb_lt_t, mb_lt_f, mb_le_t, mb_le_f, mb_ne, mb_lt0, mb_le0, mb_m1, mb_m1l, mb_m1g, mb_m1n, mb_x2, mb_x4, mb_x32, mb_lt_4, mb_le_4, mb_ge_4, mb_gt_4, mb_le_3, mb_gt_3, mb_le_7, mb_gt_7, mb_lt_32, mb_ge_32, mb_lt_128, mb_ge_128, mb_ge_1, mb_lt_1, mb_ge_1f, mb_lt_1t, not_true, not_false_iff, false_implies, true_implies, true_and, and_true, forall_eq, forall_const, eq_self, mb_e10, e, a, b]
        exact K
/-- both answers of inSub at once -/
theorem ml_sub {m p1 p2 p3 x : Int32} (K1 : mb_sb m p1 p2 p3 5 x → post 1) (K0 : ¬ mb_sb m p1 p2 p3 5 x → post 0) : wpL_inSub post () x m p1 p2 p3 := by
  rcases Classical.em (mb_sb m p1 p2 p3 5 x) with s | s
  · exact ⟨6, ml_sub_t (K1 s) 5 x 0 (by omega) s⟩
  · exact ⟨6, ml_sub_f (K0 s) 5 x 0 (by omega) s⟩
theorem mb_sb_up {m p1 p2 p3 : Int32} : ∀ (k : Nat) (x : Int32), mb_sb m p1 p2 p3 k x → mb_sb m p1 p2 p3 (k + 1) x := by
  intro k
  induction k with
  | zero => intro x s; exact s.elim
  | succ k ih =>
    intro x s
    rcases s with e | ⟨a, b, s⟩
    · exact Or.inl e
    · exact Or.inr ⟨a, b, ih _ s⟩
def mb_pp (nd : Nat) (par : Nat → Int32) (p1 p2 p3 : Int32) : Prop := (1 < nd → p1 = par 1) ∧ (2 < nd → p2 = par 2) ∧ (3 < nd → p3 = par 3)
theorem mb_nx_p {nd : Nat} {par : Nat → Int32} {p1 p2 p3 : Int32} (h : mb_pp nd par p1 p2 p3) (hnd : nd ≤ 4) {x : Nat} (h1 : 1 ≤ x) (hx : x < nd) : mb_nx p1 p2 p3 (nI x) = par x := by
  have z : x = 1 ∨ x = 2 ∨ x = 3 := by omega
  rcases z with rfl | rfl | rfl
  · exact (if_pos (by decide)).trans (h.1 hx)
  · exact (if_neg (by decide)).trans ((if_pos (by decide)).trans (h.2.1 hx))
  · exact (if_neg (by decide)).trans ((if_neg (by decide)).trans (h.2.2 hx))
theorem mb_sb_dn {nd m : Nat} {par : Nat → Int32} {p1 p2 p3 : Int32} (h : mb_pp nd par p1 p2 p3) (hP : mb_P nd par) (hnd : nd ≤ 4) (hm : 1 ≤ m) (hm4 : m < 4) : ∀ (j x : Nat), x ≤ j → x < nd → mb_sb (nI m) p1 p2 p3 (j + 1) (nI x) → mb_sb (nI m) p1 p2 p3 j (nI x) := by
  intro j
  induction j with
  | zero =>
    intro x hx hd s
    have e : x = 0 := by omega
    subst e
    rcases s with e | ⟨a, -⟩
    · have := (nI_eq (by omega) (by omega)).mp e
      omega
    · exact absurd (by decide) a
  | succ j ih =>
    intro x hx hd s
    rcases s with e | ⟨a, b, s⟩
    · exact Or.inl e
    · have h1 : 1 ≤ x := by
        by_cases z : x = 0
        · subst z; exact absurd (by decide) a
        · omega
      obtain ⟨y, hy, ey⟩ := hP.2 x h1 hd
      rw [mb_nx_p h hnd h1 hd, ey] at s
      refine Or.inr ⟨a, b, ?_⟩
      rw [mb_nx_p h hnd h1 hd, ey]
      exact ih y (by omega) (by omega) s
/-- a revoked membrane closes its subtree -/
theorem mb_cls {nd m : Nat} {par rev : Nat → Int32} {p1 p2 p3 : Int32} (h : mb_pp nd par p1 p2 p3) (hP : mb_P nd par) (hnd : nd ≤ 4) (hm : 1 ≤ m) (hm4 : m < nd) (rv : ¬ rev m = 0) : mb_cl par rev nd (mb_sb (nI m) p1 p2 p3 5) := by
  intro x y hx hy a s
  rcases a with a | a
  · -- y is x's parent
    have h1 : 1 ≤ x := by
      by_cases z : x = 0
      · subst z; rw [hP.1] at a; exact absurd a.symm (mb_n1 (by omega))
      · omega
    obtain ⟨y', hy', ey⟩ := hP.2 x h1 hx
    have e : y' = y := (nI_eq (by omega) (by omega)).mp (ey.symm.trans a)
    subst e
    rcases s with e | ⟨-, -, s⟩
    · have e2 : x = m := (nI_eq (by omega) (by omega)).mp e
      refine Or.inl ?_
      have emx : mb_mx x y' = x := if_pos hy'
      rw [emx, e2]; exact rv
    · rw [mb_nx_p h hnd h1 hx, a] at s
      exact Or.inr (mb_sb_up 4 _ s)
  · -- x is y's parent
    have h1 : 1 ≤ y := by
      by_cases z : y = 0
      · subst z; rw [hP.1] at a; exact absurd a.symm (mb_n1 (by omega))
      · omega
    obtain ⟨x', hx', ex⟩ := hP.2 y h1 hy
    have e : x' = x := (nI_eq (by omega) (by omega)).mp (ex.symm.trans a)
    subst e
    refine Or.inr (Or.inr ⟨?_, ?_, ?_⟩)
    · exact nI_nle h1 (by omega)
    · exact nI_le (b := 3) (by omega) (by decide)
    · rw [mb_nx_p h hnd h1 hy, a]
      exact mb_sb_dn h hP hnd hm (by omega) 4 x' (by omega) hx s
end
end
section
section
variable {n p nd c : Nat} {par rev st pcs regs plen pop px py kd hm lk ht sl path : Nat → Int32} {f0 f1 f2 f3 : Int32} {b1 b2 b3 b4 b5 b6 b7 b8 b9 b10 b11 b12 b13 b14 b15 : Nat → Int32} {post : Int32 → Prop} {L : Nat} {xs : Nat → Int32} {J58 : Int32 → Int32 → Int32 → Int32 → Int32 → (Nat → Int32) → (Nat → Int32) → (Nat → Int32) → (Nat → Int32) → (Nat → Int32) → (Nat → Int32) → (Nat → Int32) → (Nat → Int32) → (Nat → Int32) → (Nat → Int32) → (Nat → Int32) → (Nat → Int32) → (Nat → Int32) → (Nat → Int32) → (Nat → Int32) → Int32 → Int32 → Int32 → Int32 → (Nat → Int32) → (Nat → Int32) → (Nat → Int32) → (Nat → Int32) → (Nat → Int32) → (Nat → Int32) → (Nat → Int32) → (Nat → Int32) → (Nat → Int32) → (Nat → Int32) → (Nat → Int32) → (Nat → Int32) → (Nat → Int32) → (Nat → Int32) → (Nat → Int32) → Prop} {x3 x4 : Int32} {kc ks : Nat}
theorem ml_32 : (32 ≤ nI 32) = True := eq_true (by decide)
theorem ml_2 {a : Nat} (h : a < 2) : (2 ≤ nI a) = False := eq_false (nI_ge (b := 2) h (by decide))
theorem ml_03 : ¬ (0 : Int32) = 3 := by decide
/-- no later forwarder has the same home and link -/
theorem ml_921 {J733 : Int32 → Prop} {x13 x14 : Int32} {o : Nat} (hc : c ≤ 32) (hu : ∀ g, o < g → g < c → ¬ (kd g = 3 ∧ hm g = x14 ∧ lk g = x13)) (K : J733 (nI (o + 1))) :
    ∀ m i : Nat, o < i → i ≤ 32 → 32 - i < m → wL_law_921 post L xs J58 J733 x3 x4 (nI o) x13 x14 kc ks (nI n) (nI p) (nI nd) (nI c) par rev st pcs regs plen pop px py kd hm lk ht sl path f0 f1 f2 f3 b1 b2 b3 b4 b5 b6 b7 b8 b9 b10 b11 b12 b13 b14 b15 m (nI i) := by
  intro m
  induction m with
  | zero => intro i _ _ z; omega
  | succ m ih =>
    intro i ho hi z
    by_cases e : i = 32
    · subst e
      simp (disch := omega) only [wL_law_921, ml_32, nI_clamp, vp_in_nI, nI_1, nI_add, mb_lt_t, mb_lt_f, mb_le_t, mb_le_f, mb_ne, mb_lt0, mb_le0, mb_m1, mb_m1l, mb_m1g, mb_m1n, mb_x2, mb_x4, mb_x32, mb_lt_4, mb_le_4, mb_ge_4, mb_gt_4, mb_le_3, mb_gt_3, mb_le_7, mb_gt_7, mb_lt_32, mb_ge_32, mb_lt_128, mb_ge_128, mb_ge_1, mb_lt_1, mb_ge_1f, mb_lt_1t, not_true, not_false_iff, false_implies, true_implies, true_and, and_true, forall_eq, forall_const, eq_self, mb_e10]
      exact K
    · have K' := ih (i + 1) (by omega) (by omega) (by omega)
      by_cases hic : i < c
      · have hno := hu i ho hic
        by_cases k1 : kd i = 3
        · by_cases k2 : hm i = x14
          · have k3 : ¬ lk i = x13 := fun z => hno ⟨k1, k2, z⟩
            simp (disch := omega) only [wL_law_921, mx_kind_t, mx_kind_f, mx_home_t, mx_link_t, mx_hits_t, mx_par_t, mx_par_f, mx_reg_t, nI_clamp, vp_in_nI, nI_1, nI_add, mb_lt_t, mb_lt_f, mb_le_t, mb_le_f, mb_ne, mb_lt0, mb_le0, mb_m1, mb_m1l, mb_m1g, mb_m1n, mb_x2, mb_x4, mb_x32, mb_lt_4, mb_le_4, mb_ge_4, mb_gt_4, mb_le_3, mb_gt_3, mb_le_7, mb_gt_7, mb_lt_32, mb_ge_32, mb_lt_128, mb_ge_128, mb_ge_1, mb_lt_1, mb_ge_1f, mb_lt_1t, not_true, not_false_iff, false_implies, true_implies, true_and, and_true, forall_eq, forall_const, eq_self, mb_e10, k1, k2, k3]
            exact K'
          · simp (disch := omega) only [wL_law_921, mx_kind_t, mx_kind_f, mx_home_t, mx_link_t, mx_hits_t, mx_par_t, mx_par_f, mx_reg_t, nI_clamp, vp_in_nI, nI_1, nI_add, mb_lt_t, mb_lt_f, mb_le_t, mb_le_f, mb_ne, mb_lt0, mb_le0, mb_m1, mb_m1l, mb_m1g, mb_m1n, mb_x2, mb_x4, mb_x32, mb_lt_4, mb_le_4, mb_ge_4, mb_gt_4, mb_le_3, mb_gt_3, mb_le_7, mb_gt_7, mb_lt_32, mb_ge_32, mb_lt_128, mb_ge_128, mb_ge_1, mb_lt_1, mb_ge_1f, mb_lt_1t, not_true, not_false_iff, false_implies, true_implies, true_and, and_true, forall_eq, forall_const, eq_self, mb_e10, k1, k2]
            exact K'
        · simp (disch := omega) only [wL_law_921, mx_kind_t, mx_kind_f, mx_home_t, mx_link_t, mx_hits_t, mx_par_t, mx_par_f, mx_reg_t, nI_clamp, vp_in_nI, nI_1, nI_add, mb_lt_t, mb_lt_f, mb_le_t, mb_le_f, mb_ne, mb_lt0, mb_le0, mb_m1, mb_m1l, mb_m1g, mb_m1n, mb_x2, mb_x4, mb_x32, mb_lt_4, mb_le_4, mb_ge_4, mb_gt_4, mb_le_3, mb_gt_3, mb_le_7, mb_gt_7, mb_lt_32, mb_ge_32, mb_lt_128, mb_ge_128, mb_ge_1, mb_lt_1, mb_ge_1f, mb_lt_1t, not_true, not_false_iff, false_implies, true_implies, true_and, and_true, forall_eq, forall_const, eq_self, mb_e10, k1]
          exact K'
      · simp (disch := omega) only [wL_law_921, mx_kind_t, mx_kind_f, mx_home_t, mx_link_t, mx_hits_t, mx_par_t, mx_par_f, mx_reg_t, nI_clamp, vp_in_nI, nI_1, nI_add, mb_lt_t, mb_lt_f, mb_le_t, mb_le_f, mb_ne, mb_lt0, mb_le0, mb_m1, mb_m1l, mb_m1g, mb_m1n, mb_x2, mb_x4, mb_x32, mb_lt_4, mb_le_4, mb_ge_4, mb_gt_4, mb_le_3, mb_gt_3, mb_le_7, mb_gt_7, mb_lt_32, mb_ge_32, mb_lt_128, mb_ge_128, mb_ge_1, mb_lt_1, mb_ge_1f, mb_lt_1t, not_true, not_false_iff, false_implies, true_implies, true_and, and_true, forall_eq, forall_const, eq_self, mb_e10, ml_03]
        exact K'
theorem ml_811_n {J733 : Int32 → Prop} {x12 : Int32} {o : Nat} (k : ¬ x12 = 3) (K : J733 (nI (o + 1))) : wL_law_811 post L xs J58 J733 x3 x4 (nI o) x12 kc ks (nI n) (nI p) (nI nd) (nI c) par rev st pcs regs plen pop px py kd hm lk ht sl path f0 f1 f2 f3 b1 b2 b3 b4 b5 b6 b7 b8 b9 b10 b11 b12 b13 b14 b15 := by
  simp (disch := omega) only [wL_law_811, nI_clamp, vp_in_nI, nI_1, nI_add, mb_lt_t, mb_lt_f, mb_le_t, mb_le_f, mb_ne, mb_lt0, mb_le0, mb_m1, mb_m1l, mb_m1g, mb_m1n, mb_x2, mb_x4, mb_x32, mb_lt_4, mb_le_4, mb_ge_4, mb_gt_4, mb_le_3, mb_gt_3, mb_le_7, mb_gt_7, mb_lt_32, mb_ge_32, mb_lt_128, mb_ge_128, mb_ge_1, mb_lt_1, mb_ge_1f, mb_lt_1t, not_true, not_false_iff, false_implies, true_implies, true_and, and_true, forall_eq, forall_const, eq_self, mb_e10, k]
  exact K
/-- a forwarder: its target, adjacency, no way home, no second one -/
theorem ml_811_f {J733 : Int32 → Prop} {o : Nat} (H : mb_H n nd c par kd hm lk sl) (ho : o < c) (k : kd o = 3) (K : J733 (nI (o + 1))) : wL_law_811 post L xs J58 J733 x3 x4 (nI o) 3 kc ks (nI n) (nI p) (nI nd) (nI c) par rev st pcs regs plen pop px py kd hm lk ht sl path f0 f1 f2 f3 b1 b2 b3 b4 b5 b6 b7 b8 b9 b10 b11 b12 b13 b14 b15 := by
  have hn : n ≤ 32 := H.2.1
  have hcn : c ≤ n := H.1
  have hnd : nd ≤ 4 := H.2.2.2.1
  obtain ⟨a, t, e, ha, ea, h1, et, he, ee, had, hno⟩ := mb_fw (mb_H_ob H ho) k
  have kt : ¬ kd t = 0 := by
    obtain ⟨-, -, -, ⟨q, -⟩ | ⟨q, -⟩ | ⟨q, -⟩⟩ := mb_H_ob H (show t < c by omega)
    · rw [q]; decide
    · rw [q]; decide
    · rw [q]; decide
  have hu : ∀ g, o < g → g < c → ¬ (kd g = 3 ∧ hm g = nI a ∧ lk g = nI t) := by
    rintro g hg hgc ⟨g1, g2, g3⟩
    exact H.2.2.2.2.2.2 o g hg hgc k g1 (g2.trans ea.symm) (g3.trans et.symm)
  have K1 := ml_921 (post := post) (L := L) (xs := xs) (J58 := J58) (x3 := x3) (x4 := x4) (kc := kc) (ks := ks) (n := n) (p := p) (nd := nd) (par := par) (rev := rev) (st := st) (pcs := pcs) (regs := regs) (plen := plen) (pop := pop) (px := px) (py := py) (ht := ht) (sl := sl) (path := path)
    (f0 := f0) (f1 := f1) (f2 := f2) (f3 := f3) (b1 := b1) (b2 := b2) (b3 := b3) (b4 := b4) (b5 := b5) (b6 := b6) (b7 := b7) (b8 := b8) (b9 := b9) (b10 := b10) (b11 := b11) (b12 := b12) (b13 := b13) (b14 := b14) (b15 := b15) (show c ≤ 32 by omega) hu K 33 (o + 1) (by omega) (by omega) (by omega)
  have K2 : wL_law_888 post L xs J58 J733 x3 x4 (nI o) (nI t) (nI a) kc ks (nI n) (nI p) (nI nd) (nI c) par rev st pcs regs plen pop px py kd hm lk ht sl path f0 f1 f2 f3 b1 b2 b3 b4 b5 b6 b7 b8 b9 b10 b11 b12 b13 b14 b15 := by
    by_cases k3 : kd t = 3
    · obtain ⟨-, t2, -, -, -, h2, et2, -⟩ := mb_fw (mb_H_ob H (show t < c by omega)) k3
      have hh : ¬ hm t2 = nI a := fun q => hno ⟨k3, by rw [et2, nI_clamp (by omega)]; exact q⟩
      simp (disch := omega) only [wL_law_888, mx_kind_t, mx_kind_f, mx_home_t, mx_link_t, mx_hits_t, mx_par_t, mx_par_f, mx_reg_t, nI_clamp, vp_in_nI, nI_1, nI_add, mb_lt_t, mb_lt_f, mb_le_t, mb_le_f, mb_ne, mb_lt0, mb_le0, mb_m1, mb_m1l, mb_m1g, mb_m1n, mb_x2, mb_x4, mb_x32, mb_lt_4, mb_le_4, mb_ge_4, mb_gt_4, mb_le_3, mb_gt_3, mb_le_7, mb_gt_7, mb_lt_32, mb_ge_32, mb_lt_128, mb_ge_128, mb_ge_1, mb_lt_1, mb_ge_1f, mb_lt_1t, not_true, not_false_iff, false_implies, true_implies, true_and, and_true, forall_eq, forall_const, eq_self, mb_e10, k3, et2, hh]
      exact ⟨33, K1⟩
    · simp (disch := omega) only [wL_law_888, mx_kind_t, mx_kind_f, mx_home_t, mx_link_t, mx_hits_t, mx_par_t, mx_par_f, mx_reg_t, nI_clamp, vp_in_nI, nI_1, nI_add, mb_lt_t, mb_lt_f, mb_le_t, mb_le_f, mb_ne, mb_lt0, mb_le0, mb_m1, mb_m1l, mb_m1g, mb_m1n, mb_x2, mb_x4, mb_x32, mb_lt_4, mb_le_4, mb_ge_4, mb_gt_4, mb_le_3, mb_gt_3, mb_le_7, mb_gt_7, mb_lt_32, mb_ge_32, mb_lt_128, mb_ge_128, mb_ge_1, mb_lt_1, mb_ge_1f, mb_lt_1t, not_true, not_false_iff, false_implies, true_implies, true_and, and_true, forall_eq, forall_const, eq_self, mb_e10, k3]
      exact ⟨33, K1⟩
  by_cases p1 : par e = nI a
  · simp (disch := omega) only [wL_law_811, mx_kind_t, mx_kind_f, mx_home_t, mx_link_t, mx_hits_t, mx_par_t, mx_par_f, mx_reg_t, nI_clamp, vp_in_nI, nI_1, nI_add, mb_lt_t, mb_lt_f, mb_le_t, mb_le_f, mb_ne, mb_lt0, mb_le0, mb_m1, mb_m1l, mb_m1g, mb_m1n, mb_x2, mb_x4, mb_x32, mb_lt_4, mb_le_4, mb_ge_4, mb_gt_4, mb_le_3, mb_gt_3, mb_le_7, mb_gt_7, mb_lt_32, mb_ge_32, mb_lt_128, mb_ge_128, mb_ge_1, mb_lt_1, mb_ge_1f, mb_lt_1t, not_true, not_false_iff, false_implies, true_implies, true_and, and_true, forall_eq, forall_const, eq_self, mb_e10, ea, et, ee, kt, p1]
    exact K2
  · have p2 : par a = nI e := had.resolve_right p1
    simp (disch := omega) only [wL_law_811, mx_kind_t, mx_kind_f, mx_home_t, mx_link_t, mx_hits_t, mx_par_t, mx_par_f, mx_reg_t, nI_clamp, vp_in_nI, nI_1, nI_add, mb_lt_t, mb_lt_f, mb_le_t, mb_le_f, mb_ne, mb_lt0, mb_le0, mb_m1, mb_m1l, mb_m1g, mb_m1n, mb_x2, mb_x4, mb_x32, mb_lt_4, mb_le_4, mb_ge_4, mb_gt_4, mb_le_3, mb_gt_3, mb_le_7, mb_gt_7, mb_lt_32, mb_ge_32, mb_lt_128, mb_ge_128, mb_ge_1, mb_lt_1, mb_ge_1f, mb_lt_1t, not_true, not_false_iff, false_implies, true_implies, true_and, and_true, forall_eq, forall_const, eq_self, mb_e10, ea, et, ee, kt, p1, p2]
    exact K2
/-- a reference of a domain, as the law asks for it -/
theorem ml_757 {J733 : Int32 → Prop} {o : Nat} (H : mb_H n nd c par kd hm lk sl) (ho : o < c) (k : kd o = 1) (K : J733 (nI (o + 1))) :
    ∃ m, wL_law_757 post L xs J58 J733 x3 x4 (nI o) 1 kc ks (nI n) (nI p) (nI nd) (nI c) par rev st pcs regs plen pop px py kd hm lk ht sl path f0 f1 f2 f3 b1 b2 b3 b4 b5 b6 b7 b8 b9 b10 b11 b12 b13 b14 b15 m 0 := by
  have hn : n ≤ 32 := H.2.1
  have hcn : c ≤ n := H.1
  have hnd : nd ≤ 4 := H.2.2.2.1
  have kn : ∀ j, j < c → ¬ kd j = 0 := by
    intro j hj
    obtain ⟨-, -, -, ⟨q, -⟩ | ⟨q, -⟩ | ⟨q, -⟩⟩ := mb_H_ob H hj
    · rw [q]; decide
    · rw [q]; decide
    · rw [q]; decide
  obtain ⟨s0, s1⟩ := H.2.2.2.2.2.1 o ho k
  have z2 : ¬ (2 : Int32) ≤ 0 := by decide
  have z21 : ¬ (2 : Int32) ≤ 1 := by decide
  have z22 : (2 : Int32) ≤ 2 := by decide
  have a01 : (0 : Int32) + 1 = 1 := by decide
  have a11 : (1 : Int32) + 1 = 2 := by decide
  have K0 : wL_law_811 post L xs J58 J733 x3 x4 (nI o) 1 kc ks (nI n) (nI p) (nI nd) (nI c) par rev st pcs regs plen pop px py kd hm lk ht sl path f0 f1 f2 f3 b1 b2 b3 b4 b5 b6 b7 b8 b9 b10 b11 b12 b13 b14 b15 := ml_811_n (by decide) K
  have W2 : wL_law_757 post L xs J58 J733 x3 x4 (nI o) 1 kc ks (nI n) (nI p) (nI nd) (nI c) par rev st pcs regs plen pop px py kd hm lk ht sl path f0 f1 f2 f3 b1 b2 b3 b4 b5 b6 b7 b8 b9 b10 b11 b12 b13 b14 b15 1 2 := br_t z22 K0
  have W1 : wL_law_757 post L xs J58 J733 x3 x4 (nI o) 1 kc ks (nI n) (nI p) (nI nd) (nI c) par rev st pcs regs plen pop px py kd hm lk ht sl path f0 f1 f2 f3 b1 b2 b3 b4 b5 b6 b7 b8 b9 b10 b11 b12 b13 b14 b15 2 1 := by
    rcases s1 with e | ⟨j, hj, ej, eh⟩
    · rw [wL_law_757]
      simp (disch := omega) only [mx_slot_1, mx_kind_t, mx_kind_f, mx_home_t, mx_link_t, mx_hits_t, mx_par_t, mx_par_f, mx_reg_t, nI_clamp, vp_in_nI, nI_1, nI_add, mb_lt_t, mb_lt_f, mb_le_t, mb_le_f, mb_ne, mb_lt0, mb_le0, mb_m1, mb_m1l, mb_m1g, mb_m1n, mb_x2, mb_x4, mb_x32, mb_lt_4, mb_le_4, mb_ge_4, mb_gt_4, mb_le_3, mb_gt_3, mb_le_7, mb_gt_7, mb_lt_32, mb_ge_32, mb_lt_128, mb_ge_128, mb_ge_1, mb_lt_1, mb_ge_1f, mb_lt_1t, not_true, not_false_iff, false_implies, true_implies, true_and, and_true, forall_eq, forall_const, eq_self, mb_e10, k, z21, a11, e]
      exact W2
    · have kj := kn j hj
      rw [wL_law_757]
      simp (disch := omega) only [mx_slot_1, mx_kind_t, mx_kind_f, mx_home_t, mx_link_t, mx_hits_t, mx_par_t, mx_par_f, mx_reg_t, nI_clamp, vp_in_nI, nI_1, nI_add, mb_lt_t, mb_lt_f, mb_le_t, mb_le_f, mb_ne, mb_lt0, mb_le0, mb_m1, mb_m1l, mb_m1g, mb_m1n, mb_x2, mb_x4, mb_x32, mb_lt_4, mb_le_4, mb_ge_4, mb_gt_4, mb_le_3, mb_gt_3, mb_le_7, mb_gt_7, mb_lt_32, mb_ge_32, mb_lt_128, mb_ge_128, mb_ge_1, mb_lt_1, mb_ge_1f, mb_lt_1t, not_true, not_false_iff, false_implies, true_implies, true_and, and_true, forall_eq, forall_const, eq_self, mb_e10, k, z21, a11, ej, kj, eh]
      exact W2
  refine ⟨3, ?_⟩
  rcases s0 with e | ⟨j, hj, ej, eh⟩
  · rw [wL_law_757]
    simp (disch := omega) only [mx_slot_0, mx_kind_t, mx_kind_f, mx_home_t, mx_link_t, mx_hits_t, mx_par_t, mx_par_f, mx_reg_t, nI_clamp, vp_in_nI, nI_1, nI_add, mb_lt_t, mb_lt_f, mb_le_t, mb_le_f, mb_ne, mb_lt0, mb_le0, mb_m1, mb_m1l, mb_m1g, mb_m1n, mb_x2, mb_x4, mb_x32, mb_lt_4, mb_le_4, mb_ge_4, mb_gt_4, mb_le_3, mb_gt_3, mb_le_7, mb_gt_7, mb_lt_32, mb_ge_32, mb_lt_128, mb_ge_128, mb_ge_1, mb_lt_1, mb_ge_1f, mb_lt_1t, not_true, not_false_iff, false_implies, true_implies, true_and, and_true, forall_eq, forall_const, eq_self, mb_e10, k, z2, a01, e]
    exact W1
  · have kj := kn j hj
    rw [wL_law_757]
    simp (disch := omega) only [mx_slot_0, mx_kind_t, mx_kind_f, mx_home_t, mx_link_t, mx_hits_t, mx_par_t, mx_par_f, mx_reg_t, nI_clamp, vp_in_nI, nI_1, nI_add, mb_lt_t, mb_lt_f, mb_le_t, mb_le_f, mb_ne, mb_lt0, mb_le0, mb_m1, mb_m1l, mb_m1g, mb_m1n, mb_x2, mb_x4, mb_x32, mb_lt_4, mb_le_4, mb_ge_4, mb_gt_4, mb_le_3, mb_gt_3, mb_le_7, mb_gt_7, mb_lt_32, mb_ge_32, mb_lt_128, mb_ge_128, mb_ge_1, mb_lt_1, mb_ge_1f, mb_lt_1t, not_true, not_false_iff, false_implies, true_implies, true_and, and_true, forall_eq, forall_const, eq_self, mb_e10, k, z2, a01, ej, kj, eh]
    exact W1
theorem ml_733 (H : mb_H n nd c par kd hm lk sl) {t : Nat} (K : J58 (nI (t + 1)) (nI n) (nI p) (nI nd) (nI c) par rev st pcs regs plen pop px py kd hm lk ht sl path f0 f1 f2 f3 b1 b2 b3 b4 b5 b6 b7 b8 b9 b10 b11 b12 b13 b14 b15) :
    ∀ m o : Nat, o ≤ 32 → 32 - o < m → wL_law_733 post L xs J58 x3 (nI t) kc ks (nI n) (nI p) (nI nd) (nI c) par rev st pcs regs plen pop px py kd hm lk ht sl path f0 f1 f2 f3 b1 b2 b3 b4 b5 b6 b7 b8 b9 b10 b11 b12 b13 b14 b15 m (nI o) := by
  have hn : n ≤ 32 := H.2.1
  have hcn : c ≤ n := H.1
  intro m
  induction m with
  | zero => intro o _ z; omega
  | succ m ih =>
    intro o ho z
    by_cases e : o = 32
    · subst e
      simp (disch := omega) only [wL_law_733, ml_32, nI_clamp, vp_in_nI, nI_1, nI_add, mb_lt_t, mb_lt_f, mb_le_t, mb_le_f, mb_ne, mb_lt0, mb_le0, mb_m1, mb_m1l, mb_m1g, mb_m1n, mb_x2, mb_x4, mb_x32, mb_lt_4, mb_le_4, mb_ge_4, mb_gt_4, mb_le_3, mb_gt_3, mb_le_7, mb_gt_7, mb_lt_32, mb_ge_32, mb_lt_128, mb_ge_128, mb_ge_1, mb_lt_1, mb_ge_1f, mb_lt_1t, not_true, not_false_iff, false_implies, true_implies, true_and, and_true, forall_eq, forall_const, eq_self, mb_e10]
      exact K
    · have K' := ih (o + 1) (by omega) (by omega)
      by_cases hoc : o < c
      · obtain ⟨-, -, -, ⟨q, -⟩ | ⟨q, -⟩ | ⟨q, -⟩⟩ := mb_H_ob H hoc
        · simp (disch := omega) only [wL_law_733, mx_kind_t, mx_kind_f, mx_home_t, mx_link_t, mx_hits_t, mx_par_t, mx_par_f, mx_reg_t, nI_clamp, vp_in_nI, nI_1, nI_add, mb_lt_t, mb_lt_f, mb_le_t, mb_le_f, mb_ne, mb_lt0, mb_le0, mb_m1, mb_m1l, mb_m1g, mb_m1n, mb_x2, mb_x4, mb_x32, mb_lt_4, mb_le_4, mb_ge_4, mb_gt_4, mb_le_3, mb_gt_3, mb_le_7, mb_gt_7, mb_lt_32, mb_ge_32, mb_lt_128, mb_ge_128, mb_ge_1, mb_lt_1, mb_ge_1f, mb_lt_1t, not_true, not_false_iff, false_implies, true_implies, true_and, and_true, forall_eq, forall_const, eq_self, mb_e10, q]
          exact ml_757 H hoc q K'
        · simp (disch := omega) only [wL_law_733, mx_kind_t, mx_kind_f, mx_home_t, mx_link_t, mx_hits_t, mx_par_t, mx_par_f, mx_reg_t, nI_clamp, vp_in_nI, nI_1, nI_add, mb_lt_t, mb_lt_f, mb_le_t, mb_le_f, mb_ne, mb_lt0, mb_le0, mb_m1, mb_m1l, mb_m1g, mb_m1n, mb_x2, mb_x4, mb_x32, mb_lt_4, mb_le_4, mb_ge_4, mb_gt_4, mb_le_3, mb_gt_3, mb_le_7, mb_gt_7, mb_lt_32, mb_ge_32, mb_lt_128, mb_ge_128, mb_ge_1, mb_lt_1, mb_ge_1f, mb_lt_1t, not_true, not_false_iff, false_implies, true_implies, true_and, and_true, forall_eq, forall_const, eq_self, mb_e10, mb_e01, mb_e02, mb_e03, mb_e04, mb_e05, mb_e06, mb_e07, mb_l00, mb_l02, mb_g50, mb_g60, mb_e10, mb_e12, mb_e13, mb_e14, mb_e15, mb_e16, mb_e17, mb_l10, mb_l12, mb_g51, mb_g61, mb_e20, mb_e21, mb_e23, mb_e24, mb_e25, mb_e26, mb_e27, mb_l20, mb_l22, mb_g52, mb_g62, mb_e30, mb_e31, mb_e32, mb_e34, mb_e35, mb_e36, mb_e37, mb_l30, mb_l32, mb_g53, mb_g63, mb_e40, mb_e41, mb_e42, mb_e43, mb_e45, mb_e46, mb_e47, mb_l40, mb_l42, mb_g54, mb_g64, mb_e50, mb_e51, mb_e52, mb_e53, mb_e54, mb_e56, mb_e57, mb_l50, mb_l52, mb_g55, mb_g65, mb_e60, mb_e61, mb_e62, mb_e63, mb_e64, mb_e65, mb_e67, mb_l60, mb_l62, mb_g56, mb_g66, mb_e70, mb_e71, mb_e72, mb_e73, mb_e74, mb_e75, mb_e76, mb_l70, mb_l72, mb_g57, mb_g67, q]
          exact ml_811_n (by decide) K'
        · simp (disch := omega) only [wL_law_733, mx_kind_t, mx_kind_f, mx_home_t, mx_link_t, mx_hits_t, mx_par_t, mx_par_f, mx_reg_t, nI_clamp, vp_in_nI, nI_1, nI_add, mb_lt_t, mb_lt_f, mb_le_t, mb_le_f, mb_ne, mb_lt0, mb_le0, mb_m1, mb_m1l, mb_m1g, mb_m1n, mb_x2, mb_x4, mb_x32, mb_lt_4, mb_le_4, mb_ge_4, mb_gt_4, mb_le_3, mb_gt_3, mb_le_7, mb_gt_7, mb_lt_32, mb_ge_32, mb_lt_128, mb_ge_128, mb_ge_1, mb_lt_1, mb_ge_1f, mb_lt_1t, not_true, not_false_iff, false_implies, true_implies, true_and, and_true, forall_eq, forall_const, eq_self, mb_e10, mb_e01, mb_e02, mb_e03, mb_e04, mb_e05, mb_e06, mb_e07, mb_l00, mb_l02, mb_g50, mb_g60, mb_e10, mb_e12, mb_e13, mb_e14, mb_e15, mb_e16, mb_e17, mb_l10, mb_l12, mb_g51, mb_g61, mb_e20, mb_e21, mb_e23, mb_e24, mb_e25, mb_e26, mb_e27, mb_l20, mb_l22, mb_g52, mb_g62, mb_e30, mb_e31, mb_e32, mb_e34, mb_e35, mb_e36, mb_e37, mb_l30, mb_l32, mb_g53, mb_g63, mb_e40, mb_e41, mb_e42, mb_e43, mb_e45, mb_e46, mb_e47, mb_l40, mb_l42, mb_g54, mb_g64, mb_e50, mb_e51, mb_e52, mb_e53, mb_e54, mb_e56, mb_e57, mb_l50, mb_l52, mb_g55, mb_g65, mb_e60, mb_e61, mb_e62, mb_e63, mb_e64, mb_e65, mb_e67, mb_l60, mb_l62, mb_g56, mb_g66, mb_e70, mb_e71, mb_e72, mb_e73, mb_e74, mb_e75, mb_e76, mb_l70, mb_l72, mb_g57, mb_g67, q]
          exact ml_811_f H hoc q K'
      · simp (disch := omega) only [wL_law_733, mx_kind_t, mx_kind_f, mx_home_t, mx_link_t, mx_hits_t, mx_par_t, mx_par_f, mx_reg_t, nI_clamp, vp_in_nI, nI_1, nI_add, mb_lt_t, mb_lt_f, mb_le_t, mb_le_f, mb_ne, mb_lt0, mb_le0, mb_m1, mb_m1l, mb_m1g, mb_m1n, mb_x2, mb_x4, mb_x32, mb_lt_4, mb_le_4, mb_ge_4, mb_gt_4, mb_le_3, mb_gt_3, mb_le_7, mb_gt_7, mb_lt_32, mb_ge_32, mb_lt_128, mb_ge_128, mb_ge_1, mb_lt_1, mb_ge_1f, mb_lt_1t, not_true, not_false_iff, false_implies, true_implies, true_and, and_true, forall_eq, forall_const, eq_self, mb_e10, mb_e01, mb_e02, mb_e03, mb_e04, mb_e05, mb_e06, mb_e07, mb_l00, mb_l02, mb_g50, mb_g60, mb_e10, mb_e12, mb_e13, mb_e14, mb_e15, mb_e16, mb_e17, mb_l10, mb_l12, mb_g51, mb_g61, mb_e20, mb_e21, mb_e23, mb_e24, mb_e25, mb_e26, mb_e27, mb_l20, mb_l22, mb_g52, mb_g62, mb_e30, mb_e31, mb_e32, mb_e34, mb_e35, mb_e36, mb_e37, mb_l30, mb_l32, mb_g53, mb_g63, mb_e40, mb_e41, mb_e42, mb_e43, mb_e45, mb_e46, mb_e47, mb_l40, mb_l42, mb_g54, mb_g64, mb_e50, mb_e51, mb_e52, mb_e53, mb_e54, mb_e56, mb_e57, mb_l50, mb_l52, mb_g55, mb_g65, mb_e60, mb_e61, mb_e62, mb_e63, mb_e64, mb_e65, mb_e67, mb_l60, mb_l62, mb_g56, mb_g66, mb_e70, mb_e71, mb_e72, mb_e73, mb_e74, mb_e75, mb_e76, mb_l70, mb_l72, mb_g57, mb_g67]
        exact ml_811_n (by decide) K'
theorem ml_4 : (4 ≤ nI 4) = True := eq_true (by decide)
theorem ml_674 {J651 : Int32 → Prop} (H : mb_H n nd c par kd hm lk sl) (R : mb_R nd c hm regs) {d : Nat} (hd : d < nd) (K : J651 (nI (d + 1))) :
    ∀ m r : Nat, r ≤ 4 → 4 - r < m → wL_law_674 post L xs J58 J651 x3 x4 (nI d) kc ks (nI n) (nI p) (nI nd) (nI c) par rev st pcs regs plen pop px py kd hm lk ht sl path f0 f1 f2 f3 b1 b2 b3 b4 b5 b6 b7 b8 b9 b10 b11 b12 b13 b14 b15 m (nI r) := by
  have hn : n ≤ 32 := H.2.1
  have hcn : c ≤ n := H.1
  have hnd : nd ≤ 4 := H.2.2.2.1
  intro m
  induction m with
  | zero => intro r _ z; omega
  | succ m ih =>
    intro r hr z
    by_cases e : r = 4
    · subst e
      simp (disch := omega) only [wL_law_674, ml_4, nI_clamp, vp_in_nI, nI_1, nI_add, mb_lt_t, mb_lt_f, mb_le_t, mb_le_f, mb_ne, mb_lt0, mb_le0, mb_m1, mb_m1l, mb_m1g, mb_m1n, mb_x2, mb_x4, mb_x32, mb_lt_4, mb_le_4, mb_ge_4, mb_gt_4, mb_le_3, mb_gt_3, mb_le_7, mb_gt_7, mb_lt_32, mb_ge_32, mb_lt_128, mb_ge_128, mb_ge_1, mb_lt_1, mb_ge_1f, mb_lt_1t, not_true, not_false_iff, false_implies, true_implies, true_and, and_true, forall_eq, forall_const, eq_self, mb_e10]
      exact K
    · have K' := ih (r + 1) (by omega) (by omega)
      rcases R.1 d r hd (by omega) with e1 | ⟨j, hj, ej, eh⟩
      · simp (disch := omega) only [wL_law_674, mx_kind_t, mx_kind_f, mx_home_t, mx_link_t, mx_hits_t, mx_par_t, mx_par_f, mx_reg_t, nI_clamp, vp_in_nI, nI_1, nI_add, mb_lt_t, mb_lt_f, mb_le_t, mb_le_f, mb_ne, mb_lt0, mb_le0, mb_m1, mb_m1l, mb_m1g, mb_m1n, mb_x2, mb_x4, mb_x32, mb_lt_4, mb_le_4, mb_ge_4, mb_gt_4, mb_le_3, mb_gt_3, mb_le_7, mb_gt_7, mb_lt_32, mb_ge_32, mb_lt_128, mb_ge_128, mb_ge_1, mb_lt_1, mb_ge_1f, mb_lt_1t, not_true, not_false_iff, false_implies, true_implies, true_and, and_true, forall_eq, forall_const, eq_self, mb_e10, e1]
        exact K'
      · have kj : ¬ kd j = 0 := by
          obtain ⟨-, -, -, ⟨q, -⟩ | ⟨q, -⟩ | ⟨q, -⟩⟩ := mb_H_ob H hj
          · rw [q]; decide
          · rw [q]; decide
          · rw [q]; decide
        simp (disch := omega) only [wL_law_674, mx_kind_t, mx_kind_f, mx_home_t, mx_link_t, mx_hits_t, mx_par_t, mx_par_f, mx_reg_t, nI_clamp, vp_in_nI, nI_1, nI_add, mb_lt_t, mb_lt_f, mb_le_t, mb_le_f, mb_ne, mb_lt0, mb_le0, mb_m1, mb_m1l, mb_m1g, mb_m1n, mb_x2, mb_x4, mb_x32, mb_lt_4, mb_le_4, mb_ge_4, mb_gt_4, mb_le_3, mb_gt_3, mb_le_7, mb_gt_7, mb_lt_32, mb_ge_32, mb_lt_128, mb_ge_128, mb_ge_1, mb_lt_1, mb_ge_1f, mb_lt_1t, not_true, not_false_iff, false_implies, true_implies, true_and, and_true, forall_eq, forall_const, eq_self, mb_e10, ej, kj, eh]
        exact K'
theorem mb_par2 (hP : mb_P nd par) (hnd : nd ≤ 4) {d : Nat} (hd : d < nd) : ¬ par d = -2 := by
  by_cases z : d = 0
  · subst z; rw [hP.1]; decide
  · obtain ⟨j, hj, e⟩ := hP.2 d (by omega) hd
    rw [e]; exact of_eq_false (mb_m1n (by omega))
/-- all that the law asks of the state after a call -/
theorem ml_651 (H : mb_H n nd c par kd hm lk sl) (hP : mb_P nd par) (R : mb_R nd c hm regs) {t : Nat} (K : J58 (nI (t + 1)) (nI n) (nI p) (nI nd) (nI c) par rev st pcs regs plen pop px py kd hm lk ht sl path f0 f1 f2 f3 b1 b2 b3 b4 b5 b6 b7 b8 b9 b10 b11 b12 b13 b14 b15) :
    ∀ m d : Nat, d ≤ 4 → 4 - d < m → wL_law_651 post L xs J58 x3 (nI t) kc ks (nI n) (nI p) (nI nd) (nI c) par rev st pcs regs plen pop px py kd hm lk ht sl path f0 f1 f2 f3 b1 b2 b3 b4 b5 b6 b7 b8 b9 b10 b11 b12 b13 b14 b15 m (nI d) := by
  have hnd : nd ≤ 4 := H.2.2.2.1
  intro m
  induction m with
  | zero => intro d _ z; omega
  | succ m ih =>
    intro d hd z
    by_cases e : d = 4
    · subst e
      simp (disch := omega) only [wL_law_651, ml_4, nI_clamp, vp_in_nI, nI_1, nI_add, mb_lt_t, mb_lt_f, mb_le_t, mb_le_f, mb_ne, mb_lt0, mb_le0, mb_m1, mb_m1l, mb_m1g, mb_m1n, mb_x2, mb_x4, mb_x32, mb_lt_4, mb_le_4, mb_ge_4, mb_gt_4, mb_le_3, mb_gt_3, mb_le_7, mb_gt_7, mb_lt_32, mb_ge_32, mb_lt_128, mb_ge_128, mb_ge_1, mb_lt_1, mb_ge_1f, mb_lt_1t, not_true, not_false_iff, false_implies, true_implies, true_and, and_true, forall_eq, forall_const, eq_self, mb_e10]
      exact ⟨33, ml_733 H K 33 0 (by omega) (by omega)⟩
    · have K' := ih (d + 1) (by omega) (by omega)
      by_cases hdn : d < nd
      · have p2 := mb_par2 hP hnd hdn
        simp (disch := omega) only [wL_law_651, mx_kind_t, mx_kind_f, mx_home_t, mx_link_t, mx_hits_t, mx_par_t, mx_par_f, mx_reg_t, nI_clamp, vp_in_nI, nI_1, nI_add, mb_lt_t, mb_lt_f, mb_le_t, mb_le_f, mb_ne, mb_lt0, mb_le0, mb_m1, mb_m1l, mb_m1g, mb_m1n, mb_x2, mb_x4, mb_x32, mb_lt_4, mb_le_4, mb_ge_4, mb_gt_4, mb_le_3, mb_gt_3, mb_le_7, mb_gt_7, mb_lt_32, mb_ge_32, mb_lt_128, mb_ge_128, mb_ge_1, mb_lt_1, mb_ge_1f, mb_lt_1t, not_true, not_false_iff, false_implies, true_implies, true_and, and_true, forall_eq, forall_const, eq_self, mb_e10, p2]
        exact ⟨5, ml_674 H R hdn K' 5 0 (by omega) (by omega)⟩
      · simp (disch := omega) only [wL_law_651, mx_kind_t, mx_kind_f, mx_home_t, mx_link_t, mx_hits_t, mx_par_t, mx_par_f, mx_reg_t, nI_clamp, vp_in_nI, nI_1, nI_add, mb_lt_t, mb_lt_f, mb_le_t, mb_le_f, mb_ne, mb_lt0, mb_le0, mb_m1, mb_m1l, mb_m1g, mb_m1n, mb_x2, mb_x4, mb_x32, mb_lt_4, mb_le_4, mb_ge_4, mb_gt_4, mb_le_3, mb_gt_3, mb_le_7, mb_gt_7, mb_lt_32, mb_ge_32, mb_lt_128, mb_ge_128, mb_ge_1, mb_lt_1, mb_ge_1f, mb_lt_1t, not_true, not_false_iff, false_implies, true_implies, true_and, and_true, forall_eq, forall_const, eq_self, mb_e10]
        exact K'
end
end
section
section
variable {n p nd c : Nat} {par rev st pcs regs plen pop px py kd hm lk ht sl path : Nat → Int32} {nd' c' : Nat} {par' rev' st' pcs' regs' plen' pop' px' py' kd' hm' lk' ht' sl' path' : Nat → Int32} {post : Int32 → Prop} {L : Nat} {xs : Nat → Int32} {J58 : Int32 → Int32 → Int32 → Int32 → Int32 → (Nat → Int32) → (Nat → Int32) → (Nat → Int32) → (Nat → Int32) → (Nat → Int32) → (Nat → Int32) → (Nat → Int32) → (Nat → Int32) → (Nat → Int32) → (Nat → Int32) → (Nat → Int32) → (Nat → Int32) → (Nat → Int32) → (Nat → Int32) → (Nat → Int32) → Int32 → Int32 → Int32 → Int32 → (Nat → Int32) → (Nat → Int32) → (Nat → Int32) → (Nat → Int32) → (Nat → Int32) → (Nat → Int32) → (Nat → Int32) → (Nat → Int32) → (Nat → Int32) → (Nat → Int32) → (Nat → Int32) → (Nat → Int32) → (Nat → Int32) → (Nat → Int32) → (Nat → Int32) → Prop} {x3 x4 : Int32} {kc ks : Nat} {J203 : Int32 → Int32 → Int32 → Int32 → Int32 → (Nat → Int32) → (Nat → Int32) → (Nat → Int32) → (Nat → Int32) → (Nat → Int32) → (Nat → Int32) → (Nat → Int32) → (Nat → Int32) → (Nat → Int32) → (Nat → Int32) → (Nat → Int32) → (Nat → Int32) → (Nat → Int32) → (Nat → Int32) → (Nat → Int32) → Int32 → Int32 → Int32 → Int32 → (Nat → Int32) → (Nat → Int32) → (Nat → Int32) → (Nat → Int32) → (Nat → Int32) → (Nat → Int32) → (Nat → Int32) → (Nat → Int32) → (Nat → Int32) → (Nat → Int32) → (Nat → Int32) → (Nat → Int32) → (Nat → Int32) → (Nat → Int32) → (Nat → Int32) → Prop} {J395 J558 : Int32 → Prop} {x5 x7 x8 x9 x10 x11 x13 x14 x15 : Int32}
/-- what a call may change: of a run by a domain behind a revoked membrane nothing outside -/
def mb_Q (x5 x10 : Int32) (nd c : Nat) (par rev regs kd hm lk ht sl : Nat → Int32) (nd' c' : Nat) (rev' regs' kd' hm' lk' ht' sl' : Nat → Int32) : Prop :=
  mb_M nd rev nd' rev' ∧ ((x5 = 5 ∨ x5 = 7) → nd' = nd ∧ mb_E c kd hm lk c' kd' hm' lk' ∧ ∀ S : Int32 → Prop, mb_cl par rev nd S → S x10 → mb_Fr S c hm ht sl ht' sl' ∧ mb_Fg S nd regs regs')
theorem ml_597 {x16 : Int32} {e : Nat} (he : e < nd) (he' : e < nd') (hnd : nd ≤ 4) (hnd' : nd' ≤ 4) (hr : ∀ r, r < 4 → regs' (e * 4 + r) = regs (e * 4 + r)) (K : J558 (nI (e + 1))) :
    ∀ m r : Nat, r ≤ 4 → 4 - r < m → wL_law_597 post L xs J58 J203 J395 J558 x3 x4 x5 x7 x8 x9 x10 x11 x13 x14 x15 x16 (nI e) kc ks (nI n) (nI p) (nI nd') (nI c') par' rev' st' pcs' regs' plen' pop' px' py' kd' hm' lk' ht' sl' path' (nI n) (nI p) (nI nd) (nI c) par rev st pcs regs plen pop px py kd hm lk ht sl path m (nI r) := by
  intro m
  induction m with
  | zero => intro r _ z; omega
  | succ m ih =>
    intro r hr4 z
    by_cases e4 : r = 4
    · subst e4
      simp (disch := omega) only [wL_law_597, ml_4, nI_clamp, vp_in_nI, nI_1, nI_add, mb_lt_t, mb_lt_f, mb_le_t, mb_le_f, mb_ne, mb_lt0, mb_le0, mb_m1, mb_m1l, mb_m1g, mb_m1n, mb_x2, mb_x4, mb_x32, mb_lt_4, mb_le_4, mb_ge_4, mb_gt_4, mb_le_3, mb_gt_3, mb_le_7, mb_gt_7, mb_lt_32, mb_ge_32, mb_lt_128, mb_ge_128, mb_ge_1, mb_lt_1, mb_ge_1f, mb_lt_1t, not_true, not_false_iff, false_implies, true_implies, true_and, and_true, forall_eq, forall_const, eq_self, mb_e10]
      exact K
    · have K' := ih (r + 1) (by omega) (by omega)
      have e1 := hr r (by omega)
      simp (disch := omega) only [wL_law_597, mx_kind_t, mx_kind_f, mx_home_t, mx_link_t, mx_hits_t, mx_par_t, mx_par_f, mx_reg_t, nI_clamp, vp_in_nI, nI_1, nI_add, mb_lt_t, mb_lt_f, mb_le_t, mb_le_f, mb_ne, mb_lt0, mb_le0, mb_m1, mb_m1l, mb_m1g, mb_m1n, mb_x2, mb_x4, mb_x32, mb_lt_4, mb_le_4, mb_ge_4, mb_gt_4, mb_le_3, mb_gt_3, mb_le_7, mb_gt_7, mb_lt_32, mb_ge_32, mb_lt_128, mb_ge_128, mb_ge_1, mb_lt_1, mb_ge_1f, mb_lt_1t, not_true, not_false_iff, false_implies, true_implies, true_and, and_true, forall_eq, forall_const, eq_self, mb_e10, e1]
      exact K'
theorem ml_558 {m : Nat} (hP : mb_P nd par) (hnd : nd ≤ 4) (hnd' : nd' ≤ 4) (en : nd' = nd) (F : mb_Fg (mb_sb (nI m) x13 x14 x15 5) nd regs regs') (K : J395 (nI (m + 1))) :
    ∀ w e : Nat, e ≤ 4 → 4 - e < w → wL_law_558 post L xs J58 J203 J395 x3 x4 x5 x7 x8 x9 x10 x11 x13 x14 x15 (nI m) kc ks (nI n) (nI p) (nI nd') (nI c') par' rev' st' pcs' regs' plen' pop' px' py' kd' hm' lk' ht' sl' path' (nI n) (nI p) (nI nd) (nI c) par rev st pcs regs plen pop px py kd hm lk ht sl path w (nI e) := by
  intro w
  induction w with
  | zero => intro e _ z; omega
  | succ w ih =>
    intro e he z
    by_cases e4 : e = 4
    · subst e4
      simp (disch := omega) only [wL_law_558, ml_4, nI_clamp, vp_in_nI, nI_1, nI_add, mb_lt_t, mb_lt_f, mb_le_t, mb_le_f, mb_ne, mb_lt0, mb_le0, mb_m1, mb_m1l, mb_m1g, mb_m1n, mb_x2, mb_x4, mb_x32, mb_lt_4, mb_le_4, mb_ge_4, mb_gt_4, mb_le_3, mb_gt_3, mb_le_7, mb_gt_7, mb_lt_32, mb_ge_32, mb_lt_128, mb_ge_128, mb_ge_1, mb_lt_1, mb_ge_1f, mb_lt_1t, not_true, not_false_iff, false_implies, true_implies, true_and, and_true, forall_eq, forall_const, eq_self, mb_e10]
      exact K
    · have K' := ih (e + 1) (by omega) (by omega)
      by_cases hen : e < nd
      · have p2 := mb_par2 hP hnd hen
        simp (disch := omega) only [wL_law_558, mx_kind_t, mx_kind_f, mx_home_t, mx_link_t, mx_hits_t, mx_par_t, mx_par_f, mx_reg_t, nI_clamp, vp_in_nI, nI_1, nI_add, mb_lt_t, mb_lt_f, mb_le_t, mb_le_f, mb_ne, mb_lt0, mb_le0, mb_m1, mb_m1l, mb_m1g, mb_m1n, mb_x2, mb_x4, mb_x32, mb_lt_4, mb_le_4, mb_ge_4, mb_gt_4, mb_le_3, mb_gt_3, mb_le_7, mb_gt_7, mb_lt_32, mb_ge_32, mb_lt_128, mb_ge_128, mb_ge_1, mb_lt_1, mb_ge_1f, mb_lt_1t, not_true, not_false_iff, false_implies, true_implies, true_and, and_true, forall_eq, forall_const, eq_self, mb_e10, p2]
        refine ml_sub (fun s => ?_) (fun s => ?_)
        · simp (disch := omega) only [nI_clamp, vp_in_nI, nI_1, nI_add, mb_lt_t, mb_lt_f, mb_le_t, mb_le_f, mb_ne, mb_lt0, mb_le0, mb_m1, mb_m1l, mb_m1g, mb_m1n, mb_x2, mb_x4, mb_x32, mb_lt_4, mb_le_4, mb_ge_4, mb_gt_4, mb_le_3, mb_gt_3, mb_le_7, mb_gt_7, mb_lt_32, mb_ge_32, mb_lt_128, mb_ge_128, mb_ge_1, mb_lt_1, mb_ge_1f, mb_lt_1t, not_true, not_false_iff, false_implies, true_implies, true_and, and_true, forall_eq, forall_const, eq_self, mb_e10]
          exact K'
        · simp (disch := omega) only [nI_clamp, vp_in_nI, nI_1, nI_add, mb_lt_t, mb_lt_f, mb_le_t, mb_le_f, mb_ne, mb_lt0, mb_le0, mb_m1, mb_m1l, mb_m1g, mb_m1n, mb_x2, mb_x4, mb_x32, mb_lt_4, mb_le_4, mb_ge_4, mb_gt_4, mb_le_3, mb_gt_3, mb_le_7, mb_gt_7, mb_lt_32, mb_ge_32, mb_lt_128, mb_ge_128, mb_ge_1, mb_lt_1, mb_ge_1f, mb_lt_1t, not_true, not_false_iff, false_implies, true_implies, true_and, and_true, forall_eq, forall_const, eq_self, mb_e10]
          exact ⟨5, ml_597 hen (by omega) hnd hnd' (F e hen s) K' 5 0 (by omega) (by omega)⟩
      · simp (disch := omega) only [wL_law_558, mx_kind_t, mx_kind_f, mx_home_t, mx_link_t, mx_hits_t, mx_par_t, mx_par_f, mx_reg_t, nI_clamp, vp_in_nI, nI_1, nI_add, mb_lt_t, mb_lt_f, mb_le_t, mb_le_f, mb_ne, mb_lt0, mb_le0, mb_m1, mb_m1l, mb_m1g, mb_m1n, mb_x2, mb_x4, mb_x32, mb_lt_4, mb_le_4, mb_ge_4, mb_gt_4, mb_le_3, mb_gt_3, mb_le_7, mb_gt_7, mb_lt_32, mb_ge_32, mb_lt_128, mb_ge_128, mb_ge_1, mb_lt_1, mb_ge_1f, mb_lt_1t, not_true, not_false_iff, false_implies, true_implies, true_and, and_true, forall_eq, forall_const, eq_self, mb_e10]
        exact K'
theorem ml_459 {m : Nat} (H : mb_H n nd c par kd hm lk sl) (hP : mb_P nd par) (hc' : c' ≤ 32) (hnd' : nd' ≤ 4) (en : nd' = nd) (E : mb_E c kd hm lk c' kd' hm' lk')
    (Fr : mb_Fr (mb_sb (nI m) x13 x14 x15 5) c hm ht sl ht' sl') (Fg : mb_Fg (mb_sb (nI m) x13 x14 x15 5) nd regs regs') (K : J395 (nI (m + 1))) :
    ∀ w o : Nat, o ≤ 32 → 32 - o < w → wL_law_459 post L xs J58 J203 J395 x3 x4 x5 x7 x8 x9 x10 x11 x13 x14 x15 (nI m) kc ks (nI n) (nI p) (nI nd') (nI c') par' rev' st' pcs' regs' plen' pop' px' py' kd' hm' lk' ht' sl' path' (nI n) (nI p) (nI nd) (nI c) par rev st pcs regs plen pop px py kd hm lk ht sl path w (nI o) := by
  have hn : n ≤ 32 := H.2.1
  have hcn : c ≤ n := H.1
  have hnd : nd ≤ 4 := H.2.2.2.1
  have hcc : c ≤ c' := E.1
  intro w
  induction w with
  | zero => intro o _ z; omega
  | succ w ih =>
    intro o ho z
    by_cases e32 : o = 32
    · subst e32
      simp (disch := omega) only [wL_law_459, ml_32, nI_clamp, vp_in_nI, nI_1, nI_add, mb_lt_t, mb_lt_f, mb_le_t, mb_le_f, mb_ne, mb_lt0, mb_le0, mb_m1, mb_m1l, mb_m1g, mb_m1n, mb_x2, mb_x4, mb_x32, mb_lt_4, mb_le_4, mb_ge_4, mb_gt_4, mb_le_3, mb_gt_3, mb_le_7, mb_gt_7, mb_lt_32, mb_ge_32, mb_lt_128, mb_ge_128, mb_ge_1, mb_lt_1, mb_ge_1f, mb_lt_1t, not_true, not_false_iff, false_implies, true_implies, true_and, and_true, forall_eq, forall_const, eq_self, mb_e10]
      exact ⟨5, ml_558 hP hnd hnd' en Fg K 5 0 (by omega) (by omega)⟩
    · have K' := ih (o + 1) (by omega) (by omega)
      by_cases hoc : o < c
      · have kj : ¬ kd o = 0 := by
          obtain ⟨-, -, -, ⟨q, -⟩ | ⟨q, -⟩ | ⟨q, -⟩⟩ := mb_H_ob H hoc
          · rw [q]; decide
          · rw [q]; decide
          · rw [q]; decide
        have ek := (E.2 o hoc).1
        simp (disch := omega) only [wL_law_459, mx_kind_t, mx_home_t, nI_clamp, vp_in_nI, nI_1, nI_add, mb_lt_t, mb_lt_f, mb_le_t, mb_le_f, mb_ne, mb_lt0, mb_le0, mb_m1, mb_m1l, mb_m1g, mb_m1n, mb_x2, mb_x4, mb_x32, mb_lt_4, mb_le_4, mb_ge_4, mb_gt_4, mb_le_3, mb_gt_3, mb_le_7, mb_gt_7, mb_lt_32, mb_ge_32, mb_lt_128, mb_ge_128, mb_ge_1, mb_lt_1, mb_ge_1f, mb_lt_1t, not_true, not_false_iff, false_implies, true_implies, true_and, and_true, forall_eq, forall_const, eq_self, mb_e10, kj]
        refine ml_sub (fun s => ?_) (fun s => ?_)
        · simp (disch := omega) only [nI_clamp, vp_in_nI, nI_1, nI_add, mb_lt_t, mb_lt_f, mb_le_t, mb_le_f, mb_ne, mb_lt0, mb_le0, mb_m1, mb_m1l, mb_m1g, mb_m1n, mb_x2, mb_x4, mb_x32, mb_lt_4, mb_le_4, mb_ge_4, mb_gt_4, mb_le_3, mb_gt_3, mb_le_7, mb_gt_7, mb_lt_32, mb_ge_32, mb_lt_128, mb_ge_128, mb_ge_1, mb_lt_1, mb_ge_1f, mb_lt_1t, not_true, not_false_iff, false_implies, true_implies, true_and, and_true, forall_eq, forall_const, eq_self, mb_e10]
          exact K'
        · obtain ⟨f1, f2, f3⟩ := Fr o hoc s
          by_cases k1 : kd o = 1
          · have k1' : kd' o = 1 := ek.trans k1
            simp (disch := omega) only [not_true, not_false_iff, false_implies, true_implies, true_and, and_true, forall_eq, forall_const, eq_self, mb_e10, mx_hits_t, f1, mx_slot_0 (show o < c' by omega) hc' k1', mx_slot_0 hoc (show c ≤ 32 by omega) k1, mx_slot_1 (show o < c' by omega) hc' k1', mx_slot_1 hoc (show c ≤ 32 by omega) k1, f2, f3, nI_1]
            exact K'
          · have k1' : ¬ kd' o = 1 := fun q => k1 (ek.symm.trans q)
            simp (disch := omega) only [not_true, not_false_iff, false_implies, true_implies, true_and, and_true, forall_eq, forall_const, eq_self, mb_e10, mx_hits_t, f1, mx_slot_n (show o < c' by omega) hc' k1', mx_slot_n hoc (show c ≤ 32 by omega) k1, nI_1]
            exact K'
      · simp (disch := omega) only [wL_law_459, mx_kind_t, mx_kind_f, mx_home_t, mx_link_t, mx_hits_t, mx_par_t, mx_par_f, mx_reg_t, nI_clamp, vp_in_nI, nI_1, nI_add, mb_lt_t, mb_lt_f, mb_le_t, mb_le_f, mb_ne, mb_lt0, mb_le0, mb_m1, mb_m1l, mb_m1g, mb_m1n, mb_x2, mb_x4, mb_x32, mb_lt_4, mb_le_4, mb_ge_4, mb_gt_4, mb_le_3, mb_gt_3, mb_le_7, mb_gt_7, mb_lt_32, mb_ge_32, mb_lt_128, mb_ge_128, mb_ge_1, mb_lt_1, mb_ge_1f, mb_lt_1t, not_true, not_false_iff, false_implies, true_implies, true_and, and_true, forall_eq, forall_const, eq_self, mb_e10]
        exact K'
theorem ml_3 {a : Nat} (h : a < 4) : (3 < nI a) = False := eq_false (nI_nlt (a := 3) (by omega) (by decide))
theorem ml_3t : (3 < nI 4) = True := eq_true (by decide)
/-- the loop over the membranes -/
theorem ml_395 (H : mb_H n nd c par kd hm lk sl) (hP : mb_P nd par) (hpp : mb_pp nd par x13 x14 x15) (hc' : c' ≤ 32) (hnd' : nd' ≤ 4) (Q : mb_Q x5 x10 nd c par rev regs kd hm lk ht sl nd' c' rev' regs' kd' hm' lk' ht' sl') (K : J203 1 (nI n) (nI p) (nI nd') (nI c') par' rev' st' pcs' regs' plen' pop' px' py' kd' hm' lk' ht' sl' path' (nI n) (nI p) (nI nd) (nI c) par rev st pcs regs plen pop px py kd hm lk ht sl path) :
    ∀ w m : Nat, 1 ≤ m → m ≤ 4 → 4 - m < w → wL_law_395 post L xs J58 J203 x3 x4 x5 x7 x8 x9 x10 0 x13 x14 x15 kc ks (nI n) (nI p) (nI nd') (nI c') par' rev' st' pcs' regs' plen' pop' px' py' kd' hm' lk' ht' sl' path' (nI n) (nI p) (nI nd) (nI c) par rev st pcs regs plen pop px py kd hm lk ht sl path w (nI m) := by
  have hn : n ≤ 32 := H.2.1
  have hcn : c ≤ n := H.1
  have hnd : nd ≤ 4 := H.2.2.2.1
  have hM : nd ≤ nd' := Q.1.1
  have a01 : (0 : Int32) + 1 = 1 := by decide
  intro w
  induction w with
  | zero => intro m _ _ z; omega
  | succ w ih =>
    intro m hm1 hm4 z
    by_cases e4 : m = 4
    · subst e4
      simp (disch := omega) only [wL_law_395, ml_3t, not_true, not_false_iff, false_implies, true_implies, true_and, and_true, forall_eq, forall_const, eq_self, mb_e10, a01]
      exact K
    · have K' := ih (m + 1) (by omega) (by omega) (by omega)
      by_cases rv : m < nd ∧ ¬ rev m = 0
      · obtain ⟨hmn, rv⟩ := rv
        have rv' : ¬ rev' m = 0 := Q.1.2 m hmn rv
        have K437 : (x5 = 5 ∨ x5 = 7) → wL_law_437 post L xs J58 J203 (wL_law_395 post L xs J58 J203 x3 x4 x5 x7 x8 x9 x10 0 x13 x14 x15 kc ks (nI n) (nI p) (nI nd') (nI c') par' rev' st' pcs' regs' plen' pop' px' py' kd' hm' lk' ht' sl' path' (nI n) (nI p) (nI nd) (nI c) par rev st pcs regs plen pop px py kd hm lk ht sl path w) x3 x4 x5 x7 x8 x9 x10 0 x13 x14 x15 (nI m) kc ks (nI n) (nI p) (nI nd') (nI c') par' rev' st' pcs' regs' plen' pop' px' py' kd' hm' lk' ht' sl' path' (nI n) (nI p) (nI nd) (nI c) par rev st pcs regs plen pop px py kd hm lk ht sl path := by
          intro h57
          obtain ⟨en, E, F⟩ := Q.2 h57
          have cl : mb_cl par rev nd (mb_sb (nI m) x13 x14 x15 5) := mb_cls hpp hP hnd hm1 hmn rv
          unfold wL_law_437
          refine ml_sub (fun s => ?_) (fun s => ?_)
          · obtain ⟨f1, f2⟩ := F _ cl s
            refine br_f (by decide) ?_
            exact ⟨33, ml_459 H hP hc' hnd' en E f1 f2 K' 33 0 (by omega) (by omega)⟩
          · refine br_t rfl ?_
            refine nm_r (nI_1 m) ?_
            exact K'
        by_cases h5 : x5 = 5
        · have K5 := K437 (Or.inl h5)
          simp (disch := omega) only [wL_law_395, ml_3, mx_rvd_t hm1 hmn hnd rv, mx_rvd_t hm1 (show m < nd' by omega) hnd' rv', not_true, not_false_iff, false_implies, true_implies, true_and, and_true, forall_eq, forall_const, eq_self, mb_e10]
          exact br_t h5 K5
        · by_cases h7 : x5 = 7
          · have K7 := K437 (Or.inr h7)
            simp (disch := omega) only [wL_law_395, ml_3, mx_rvd_t hm1 hmn hnd rv, mx_rvd_t hm1 (show m < nd' by omega) hnd' rv', not_true, not_false_iff, false_implies, true_implies, true_and, and_true, forall_eq, forall_const, eq_self, mb_e10]
            exact br_f h5 (br_t h7 K7)
          · simp (disch := omega) only [wL_law_395, ml_3, mx_rvd_t hm1 hmn hnd rv, mx_rvd_t hm1 (show m < nd' by omega) hnd' rv', not_true, not_false_iff, false_implies, true_implies, true_and, and_true, forall_eq, forall_const, eq_self, mb_e10, nI_1]
            exact br_f h5 (br_f h7 K')
      · have rv0 : m < nd → rev m = 0 := fun h => Classical.byContradiction (fun q => rv ⟨h, q⟩)
        simp (disch := omega) only [wL_law_395, ml_3, mx_rvd_f hm1 (show m < 4 by omega) hnd rv0, not_true, not_false_iff, false_implies, true_implies, true_and, and_true, forall_eq, forall_const, eq_self, mb_e10, nI_1]
        exact K'
theorem mx_par_v {i : Nat} (hi : i < 4) (hnd : nd ≤ 4) : ∃ v : Int32, (i < nd → v = par i) ∧ ∀ (n p c : Nat) (rev st pcs regs plen pop px py kd hm lk ht sl path : Nat → Int32) (post : Int32 → Prop), post v → wpX_parent post (nI n, nI p, nI nd, nI c, par, rev, st, pcs, regs, plen, pop, px, py, kd, hm, lk, ht, sl, path) (nI i) := by
  by_cases h : i < nd
  · exact ⟨par i, fun _ => rfl, fun n p c rev st pcs regs plen pop px py kd hm lk ht sl path post K => by rw [mx_par_t h hnd]; exact K⟩
  · exact ⟨-2, fun z => absurd z h, fun n p c rev st pcs regs plen pop px py kd hm lk ht sl path post K => by rw [mx_par_f (by omega) (by omega)]; exact K⟩
/-- behind the first call: the comparison with the state before -/
theorem ml_362a (H : mb_H n nd c par kd hm lk sl) (hP : mb_P nd par) (hc' : c' ≤ 32) (hnd' : nd' ≤ 4) (Q : mb_Q x5 x10 nd c par rev regs kd hm lk ht sl nd' c' rev' regs' kd' hm' lk' ht' sl') (K : J203 1 (nI n) (nI p) (nI nd') (nI c') par' rev' st' pcs' regs' plen' pop' px' py' kd' hm' lk' ht' sl' path' (nI n) (nI p) (nI nd) (nI c) par rev st pcs regs plen pop px py kd hm lk ht sl path) :
    wL_law_362 post L xs J58 J203 x3 x4 x5 x7 x8 x9 x10 0 kc ks (nI n) (nI p) (nI nd') (nI c') par' rev' st' pcs' regs' plen' pop' px' py' kd' hm' lk' ht' sl' path' (nI n) (nI p) (nI nd) (nI c) par rev st pcs regs plen pop px py kd hm lk ht sl path := by
  have hnd : nd ≤ 4 := H.2.2.2.1
  obtain ⟨v1, e1, w1⟩ := mx_par_v (par := par) (i := 1) (by omega) hnd
  obtain ⟨v2, e2, w2⟩ := mx_par_v (par := par) (i := 2) (by omega) hnd
  obtain ⟨v3, e3, w3⟩ := mx_par_v (par := par) (i := 3) (by omega) hnd
  unfold wL_law_362
  refine br_f (by decide) ?_
  refine w1 n p c rev st pcs regs plen pop px py kd hm lk ht sl path _ ?_
  refine w2 n p c rev st pcs regs plen pop px py kd hm lk ht sl path _ ?_
  refine w3 n p c rev st pcs regs plen pop px py kd hm lk ht sl path _ ?_
  exact ⟨4, ml_395 H hP ⟨e1, e2, e3⟩ hc' hnd' Q K 4 1 (by omega) (by omega) (by omega)⟩
end
end
section
section
variable {n p nd c : Nat} {par rev st pcs regs plen pop px py kd hm lk ht sl path : Nat → Int32} {x5 x7 x8 x9 x10 : Int32}
/-- one call of the law, on the first object or on the second: one outcome -/
theorem ml_op (I : mb_I n p nd c par pcs regs plen pop px py kd hm lk sl) (x5 x7 x8 x9 x10 : Int32) (h9 : ¬ x9 + 1 = 0) (rev st ht path : Nat → Int32) : ∃ (nd' c' : Nat) (par' rev' st' pcs' regs' plen' pop' px' py' kd' hm' lk' ht' sl' path' : Nat → Int32), mb_I n p nd' c' par' pcs' regs' plen' pop' px' py' kd' hm' lk' sl' ∧ mb_Q x5 x10 nd c par rev regs kd hm lk ht sl nd' c' rev' regs' kd' hm' lk' ht' sl' ∧
    (∀ (post : Int32 → Prop) (L : Nat) (xs : Nat → Int32) (J58 J203 : Int32 → Int32 → Int32 → Int32 → Int32 → (Nat → Int32) → (Nat → Int32) → (Nat → Int32) → (Nat → Int32) → (Nat → Int32) → (Nat → Int32) → (Nat → Int32) → (Nat → Int32) → (Nat → Int32) → (Nat → Int32) → (Nat → Int32) → (Nat → Int32) → (Nat → Int32) → (Nat → Int32) → (Nat → Int32) → Int32 → Int32 → Int32 → Int32 → (Nat → Int32) → (Nat → Int32) → (Nat → Int32) → (Nat → Int32) → (Nat → Int32) → (Nat → Int32) → (Nat → Int32) → (Nat → Int32) → (Nat → Int32) → (Nat → Int32) → (Nat → Int32) → (Nat → Int32) → (Nat → Int32) → (Nat → Int32) → (Nat → Int32) → Prop) (x3 x4 x11 : Int32) (kc ks : Nat) (f0 f1 f2 f3 : Int32) (b1 b2 b3 b4 b5 b6 b7 b8 b9 b10 b11 b12 b13 b14 b15 : Nat → Int32), wL_law_362 post L xs J58 J203 x3 x4 x5 x7 x8 x9 x10 x11 kc ks (nI n) (nI p) (nI nd') (nI c') par' rev' st' pcs' regs' plen' pop' px' py' kd' hm' lk' ht' sl' path' f0 f1 f2 f3 b1 b2 b3 b4 b5 b6 b7 b8 b9 b10 b11 b12 b13 b14 b15 → wL_law_219_2 post L xs J58 J203 x3 x4 x5 x7 x8 x9 x10 x11 kc ks (nI n) (nI p) (nI nd) (nI c) par rev st pcs regs plen pop px py kd hm lk ht sl path f0 f1 f2 f3 b1 b2 b3 b4 b5 b6 b7 b8 b9 b10 b11 b12 b13 b14 b15) ∧
    (∀ (post : Int32 → Prop) (L : Nat) (xs : Nat → Int32) (J58 J203 : Int32 → Int32 → Int32 → Int32 → Int32 → (Nat → Int32) → (Nat → Int32) → (Nat → Int32) → (Nat → Int32) → (Nat → Int32) → (Nat → Int32) → (Nat → Int32) → (Nat → Int32) → (Nat → Int32) → (Nat → Int32) → (Nat → Int32) → (Nat → Int32) → (Nat → Int32) → (Nat → Int32) → (Nat → Int32) → Int32 → Int32 → Int32 → Int32 → (Nat → Int32) → (Nat → Int32) → (Nat → Int32) → (Nat → Int32) → (Nat → Int32) → (Nat → Int32) → (Nat → Int32) → (Nat → Int32) → (Nat → Int32) → (Nat → Int32) → (Nat → Int32) → (Nat → Int32) → (Nat → Int32) → (Nat → Int32) → (Nat → Int32) → Prop) (x3 x4 x11 : Int32) (kc ks : Nat) (f0 f1 f2 f3 : Int32) (b1 b2 b3 b4 b5 b6 b7 b8 b9 b10 b11 b12 b13 b14 b15 : Nat → Int32), wL_law_362 post L xs J58 J203 x3 x4 x5 x7 x8 x9 x10 x11 kc ks f0 f1 f2 f3 b1 b2 b3 b4 b5 b6 b7 b8 b9 b10 b11 b12 b13 b14 b15 (nI n) (nI p) (nI nd') (nI c') par' rev' st' pcs' regs' plen' pop' px' py' kd' hm' lk' ht' sl' path' → wL_law_219 post L xs J58 J203 x3 x4 x5 x7 x8 x9 x10 x11 kc ks f0 f1 f2 f3 b1 b2 b3 b4 b5 b6 b7 b8 b9 b10 b11 b12 b13 b14 b15 (nI n) (nI p) (nI nd) (nI c) par rev st pcs regs plen pop px py kd hm lk ht sl path) := by
  by_cases e0 : x5 = 0
  · obtain ⟨nd', c', par', rev', st', pcs', regs', plen', pop', px', py', kd', hm', lk', ht', sl', path', r, I', hM, hw⟩ := mb_c_newDomain I x10 rev st ht path
    refine ⟨nd', c', par', rev', st', pcs', regs', plen', pop', px', py', kd', hm', lk', ht', sl', path', I', ⟨hM, fun h => absurd h (by rw [e0]; decide)⟩, ?_, ?_⟩
    · intro post L xs J58 J203 x3 x4 x11 kc ks f0 f1 f2 f3 b1 b2 b3 b4 b5 b6 b7 b8 b9 b10 b11 b12 b13 b14 b15 K
      exact br_t e0 (hw _ K)
    · intro post L xs J58 J203 x3 x4 x11 kc ks f0 f1 f2 f3 b1 b2 b3 b4 b5 b6 b7 b8 b9 b10 b11 b12 b13 b14 b15 K
      exact br_t e0 (hw _ K)
  have n0 : ¬ x5 = 0 := e0
  by_cases e1 : x5 = 1
  · obtain ⟨nd', c', par', rev', st', pcs', regs', plen', pop', px', py', kd', hm', lk', ht', sl', path', r, I', hM, hw⟩ := mb_c_newBox I x10 rev st ht path
    refine ⟨nd', c', par', rev', st', pcs', regs', plen', pop', px', py', kd', hm', lk', ht', sl', path', I', ⟨hM, fun h => absurd h (by rw [e1]; decide)⟩, ?_, ?_⟩
    · intro post L xs J58 J203 x3 x4 x11 kc ks f0 f1 f2 f3 b1 b2 b3 b4 b5 b6 b7 b8 b9 b10 b11 b12 b13 b14 b15 K
      exact br_f n0 (br_t e1 (hw _ K))
    · intro post L xs J58 J203 x3 x4 x11 kc ks f0 f1 f2 f3 b1 b2 b3 b4 b5 b6 b7 b8 b9 b10 b11 b12 b13 b14 b15 K
      exact br_f n0 (br_t e1 (hw _ K))
  have n1 : ¬ x5 = 1 := e1
  by_cases e2 : x5 = 2
  · by_cases z9 : x9 = 0
    · obtain ⟨nd', c', par', rev', st', pcs', regs', plen', pop', px', py', kd', hm', lk', ht', sl', path', r, I', hM, hw⟩ := mb_c_give I x10 (x7 &&& 3) (-1) rev st ht path
      refine ⟨nd', c', par', rev', st', pcs', regs', plen', pop', px', py', kd', hm', lk', ht', sl', path', I', ⟨hM, fun h => absurd h (by rw [e2]; decide)⟩, ?_, ?_⟩
      · intro post L xs J58 J203 x3 x4 x11 kc ks f0 f1 f2 f3 b1 b2 b3 b4 b5 b6 b7 b8 b9 b10 b11 b12 b13 b14 b15 K
        exact br_f n0 (br_f n1 (br_t e2 (br_t z9 (hw _ K))))
      · intro post L xs J58 J203 x3 x4 x11 kc ks f0 f1 f2 f3 b1 b2 b3 b4 b5 b6 b7 b8 b9 b10 b11 b12 b13 b14 b15 K
        exact br_f n0 (br_f n1 (br_t e2 (br_t z9 (hw _ K))))
    · obtain ⟨nd', c', par', rev', st', pcs', regs', plen', pop', px', py', kd', hm', lk', ht', sl', path', r, I', hM, hw⟩ := mb_c_give I x10 (x7 &&& 3) ((x8 - x8 / (x9 + 1) * (x9 + 1)) - 1) rev st ht path
      refine ⟨nd', c', par', rev', st', pcs', regs', plen', pop', px', py', kd', hm', lk', ht', sl', path', I', ⟨hM, fun h => absurd h (by rw [e2]; decide)⟩, ?_, ?_⟩
      · intro post L xs J58 J203 x3 x4 x11 kc ks f0 f1 f2 f3 b1 b2 b3 b4 b5 b6 b7 b8 b9 b10 b11 b12 b13 b14 b15 K
        exact br_f n0 (br_f n1 (br_t e2 (br_f z9 ⟨h9, hw _ K⟩)))
      · intro post L xs J58 J203 x3 x4 x11 kc ks f0 f1 f2 f3 b1 b2 b3 b4 b5 b6 b7 b8 b9 b10 b11 b12 b13 b14 b15 K
        exact br_f n0 (br_f n1 (br_t e2 (br_f z9 ⟨h9, hw _ K⟩)))
  have n2 : ¬ x5 = 2 := e2
  by_cases e3 : x5 = 3
  · obtain ⟨nd', c', par', rev', st', pcs', regs', plen', pop', px', py', kd', hm', lk', ht', sl', path', r, I', hM, hw⟩ := mb_c_emit I x10 (x7 &&& 7) (x8 &&& 3) ((x8 >>> ((2 : Int32) &&& 31)) &&& 3) rev st ht path
    refine ⟨nd', c', par', rev', st', pcs', regs', plen', pop', px', py', kd', hm', lk', ht', sl', path', I', ⟨hM, fun h => absurd h (by rw [e3]; decide)⟩, ?_, ?_⟩
    · intro post L xs J58 J203 x3 x4 x11 kc ks f0 f1 f2 f3 b1 b2 b3 b4 b5 b6 b7 b8 b9 b10 b11 b12 b13 b14 b15 K
      exact br_f n0 (br_f n1 (br_f n2 (br_t e3 (hw _ K))))
    · intro post L xs J58 J203 x3 x4 x11 kc ks f0 f1 f2 f3 b1 b2 b3 b4 b5 b6 b7 b8 b9 b10 b11 b12 b13 b14 b15 K
      exact br_f n0 (br_f n1 (br_f n2 (br_t e3 (hw _ K))))
  have n3 : ¬ x5 = 3 := e3
  by_cases e4 : x5 = 4
  · obtain ⟨nd', c', par', rev', st', pcs', regs', plen', pop', px', py', kd', hm', lk', ht', sl', path', r, I', hM, hw⟩ := mb_c_emit I x10 (x7 &&& 7) (x8 &&& 3) ((x8 >>> ((2 : Int32) &&& 31)) &&& 3) rev st ht path
    refine ⟨nd', c', par', rev', st', pcs', regs', plen', pop', px', py', kd', hm', lk', ht', sl', path', I', ⟨hM, fun h => absurd h (by rw [e4]; decide)⟩, ?_, ?_⟩
    · intro post L xs J58 J203 x3 x4 x11 kc ks f0 f1 f2 f3 b1 b2 b3 b4 b5 b6 b7 b8 b9 b10 b11 b12 b13 b14 b15 K
      exact br_f n0 (br_f n1 (br_f n2 (br_f n3 (br_t e4 (hw _ K)))))
    · intro post L xs J58 J203 x3 x4 x11 kc ks f0 f1 f2 f3 b1 b2 b3 b4 b5 b6 b7 b8 b9 b10 b11 b12 b13 b14 b15 K
      exact br_f n0 (br_f n1 (br_f n2 (br_f n3 (br_t e4 (hw _ K)))))
  have n4 : ¬ x5 = 4 := e4
  by_cases e6 : x5 = 6
  · obtain ⟨nd', c', par', rev', st', pcs', regs', plen', pop', px', py', kd', hm', lk', ht', sl', path', r, I', hM, hw⟩ := mb_c_revoke I x10 rev st ht path
    refine ⟨nd', c', par', rev', st', pcs', regs', plen', pop', px', py', kd', hm', lk', ht', sl', path', I', ⟨hM, fun h => absurd h (by rw [e6]; decide)⟩, ?_, ?_⟩
    · intro post L xs J58 J203 x3 x4 x11 kc ks f0 f1 f2 f3 b1 b2 b3 b4 b5 b6 b7 b8 b9 b10 b11 b12 b13 b14 b15 K
      exact br_f n0 (br_f n1 (br_f n2 (br_f n3 (br_f n4 (br_t e6 (hw _ K))))))
    · intro post L xs J58 J203 x3 x4 x11 kc ks f0 f1 f2 f3 b1 b2 b3 b4 b5 b6 b7 b8 b9 b10 b11 b12 b13 b14 b15 K
      exact br_f n0 (br_f n1 (br_f n2 (br_f n3 (br_f n4 (br_t e6 (hw _ K))))))
  have n6 : ¬ x5 = 6 := e6
  obtain ⟨nd', c', par', rev', st', pcs', regs', plen', pop', px', py', kd', hm', lk', ht', sl', path', r, I', hM, hF, hw⟩ := mb_c_run I x10 (x7 &&& 15) rev st ht path
  refine ⟨nd', c', par', rev', st', pcs', regs', plen', pop', px', py', kd', hm', lk', ht', sl', path', I', ⟨hM, fun _ => hF⟩, ?_, ?_⟩
  · intro post L xs J58 J203 x3 x4 x11 kc ks f0 f1 f2 f3 b1 b2 b3 b4 b5 b6 b7 b8 b9 b10 b11 b12 b13 b14 b15 K
    exact br_f n0 (br_f n1 (br_f n2 (br_f n3 (br_f n4 (br_f n6 (hw _ K))))))
  · intro post L xs J58 J203 x3 x4 x11 kc ks f0 f1 f2 f3 b1 b2 b3 b4 b5 b6 b7 b8 b9 b10 b11 b12 b13 b14 b15 K
    exact br_f n0 (br_f n1 (br_f n2 (br_f n3 (br_f n4 (br_f n6 (hw _ K))))))
theorem ml_203 {post : Int32 → Prop} {L : Nat} {xs : Nat → Int32} {J58 : Int32 → Int32 → Int32 → Int32 → Int32 → (Nat → Int32) → (Nat → Int32) → (Nat → Int32) → (Nat → Int32) → (Nat → Int32) → (Nat → Int32) → (Nat → Int32) → (Nat → Int32) → (Nat → Int32) → (Nat → Int32) → (Nat → Int32) → (Nat → Int32) → (Nat → Int32) → (Nat → Int32) → (Nat → Int32) → Int32 → Int32 → Int32 → Int32 → (Nat → Int32) → (Nat → Int32) → (Nat → Int32) → (Nat → Int32) → (Nat → Int32) → (Nat → Int32) → (Nat → Int32) → (Nat → Int32) → (Nat → Int32) → (Nat → Int32) → (Nat → Int32) → (Nat → Int32) → (Nat → Int32) → (Nat → Int32) → (Nat → Int32) → Prop} {x3 : Int32} {kc ks : Nat} (I : mb_I n p nd c par pcs regs plen pop px py kd hm lk sl) (h9 : ¬ x9 + 1 = 0) {t : Nat}
    (K : ∀ (nd' c' : Nat) (par' rev' st' pcs' regs' plen' pop' px' py' kd' hm' lk' ht' sl' path' : Nat → Int32), mb_I n p nd' c' par' pcs' regs' plen' pop' px' py' kd' hm' lk' sl' → J58 (nI (t + 1)) (nI n) (nI p) (nI nd') (nI c') par' rev' st' pcs' regs' plen' pop' px' py' kd' hm' lk' ht' sl' path' (nI n) (nI p) (nI nd') (nI c') par' rev' st' pcs' regs' plen' pop' px' py' kd' hm' lk' ht' sl' path') : ∃ m, wL_law_203 post L xs J58 x3 (nI t) x5 x7 x8 x9 x10 kc ks m 0 (nI n) (nI p) (nI nd) (nI c) par rev st pcs regs plen pop px py kd hm lk ht sl path (nI n) (nI p) (nI nd) (nI c) par rev st pcs regs plen pop px py kd hm lk ht sl path := by
  obtain ⟨nd', c', par', rev', st', pcs', regs', plen', pop', px', py', kd', hm', lk', ht', sl', path', I', Q, o1, o2⟩ := ml_op I x5 x7 x8 x9 x10 h9 rev st ht path
  obtain ⟨H', hn8, hp8, hp, hP', hR', hG'⟩ := id I'
  obtain ⟨H, -, -, -, hP, hR, hG⟩ := id I
  have hc' : c' ≤ 32 := Nat.le_trans H'.1 H'.2.1
  have hnd' : nd' ≤ 4 := H'.2.2.2.1
  have J1 : wL_law_203 post L xs J58 x3 (nI t) x5 x7 x8 x9 x10 kc ks 1 1 (nI n) (nI p) (nI nd') (nI c') par' rev' st' pcs' regs' plen' pop' px' py' kd' hm' lk' ht' sl' path' (nI n) (nI p) (nI nd) (nI c) par rev st pcs regs plen pop px py kd hm lk ht sl path := by
    refine br_f (by decide) (br_f (by decide) ?_)
    refine o2 post L xs J58 _ x3 (nI t) 1 kc ks _ _ _ _ _ _ _ _ _ _ _ _ _ _ _ _ _ _ _ ?_
    exact br_t rfl ⟨5, ml_651 H' hP' hR' (K nd' c' par' rev' st' pcs' regs' plen' pop' px' py' kd' hm' lk' ht' sl' path' I') 5 0 (by omega) (by omega)⟩
  refine ⟨2, br_f (by decide) (br_t rfl ?_)⟩
  refine o1 post L xs J58 _ x3 (nI t) 0 kc ks _ _ _ _ _ _ _ _ _ _ _ _ _ _ _ _ _ _ _ ?_
  exact ml_362a H hP hc' hnd' Q J1
theorem ml_169 {post : Int32 → Prop} {L : Nat} {xs : Nat → Int32} {J58 : Int32 → Int32 → Int32 → Int32 → Int32 → (Nat → Int32) → (Nat → Int32) → (Nat → Int32) → (Nat → Int32) → (Nat → Int32) → (Nat → Int32) → (Nat → Int32) → (Nat → Int32) → (Nat → Int32) → (Nat → Int32) → (Nat → Int32) → (Nat → Int32) → (Nat → Int32) → (Nat → Int32) → (Nat → Int32) → Int32 → Int32 → Int32 → Int32 → (Nat → Int32) → (Nat → Int32) → (Nat → Int32) → (Nat → Int32) → (Nat → Int32) → (Nat → Int32) → (Nat → Int32) → (Nat → Int32) → (Nat → Int32) → (Nat → Int32) → (Nat → Int32) → (Nat → Int32) → (Nat → Int32) → (Nat → Int32) → (Nat → Int32) → Prop} {x3 x4 : Int32} {kc ks : Nat} {f0 f1 f2 f3 : Int32} {b1 b2 b3 b4 b5 b6 b7 b8 b9 b10 b11 b12 b13 b14 b15 : Nat → Int32} {x6 : Int32} (H : mb_H n nd c par kd hm lk sl) (K : ∀ k, k ≤ 32 → ∃ m, wL_law_203 post L xs J58 x3 x4 x5 x7 x8 (nI k) (x6 &&& 3) kc ks m 0 (nI n) (nI p) (nI nd) (nI c) par rev st pcs regs plen pop px py kd hm lk ht sl path f0 f1 f2 f3 b1 b2 b3 b4 b5 b6 b7 b8 b9 b10 b11 b12 b13 b14 b15) :
    ∀ m i k : Nat, k ≤ i → i ≤ 32 → 32 - i < m → wL_law_169 post L xs J58 x3 x4 x5 x6 x7 x8 kc ks (nI n) (nI p) (nI nd) (nI c) par rev st pcs regs plen pop px py kd hm lk ht sl path f0 f1 f2 f3 b1 b2 b3 b4 b5 b6 b7 b8 b9 b10 b11 b12 b13 b14 b15 m (nI k) (nI i) := by
  have hn : n ≤ 32 := H.2.1
  have hcn : c ≤ n := H.1
  intro m
  induction m with
  | zero => intro i k _ _ z; omega
  | succ m ih =>
    intro i k hk hi z
    by_cases e : i = 32
    · subst e
      refine br_t (by decide) (nm_e ?_)
      exact K k hk
    · by_cases hic : i < c
      · have K' := ih (i + 1) (k + 1) (by omega) (by omega) (by omega)
        have kj : ¬ kd i = 0 := by
          obtain ⟨-, -, -, ⟨q, -⟩ | ⟨q, -⟩ | ⟨q, -⟩⟩ := mb_H_ob H hic
          · rw [q]; decide
          · rw [q]; decide
          · rw [q]; decide
        simp (disch := omega) only [wL_law_169, mx_kind_t, mx_kind_f, mx_home_t, mx_link_t, mx_hits_t, mx_par_t, mx_par_f, mx_reg_t, nI_clamp, vp_in_nI, nI_1, nI_add, mb_lt_t, mb_lt_f, mb_le_t, mb_le_f, mb_ne, mb_lt0, mb_le0, mb_m1, mb_m1l, mb_m1g, mb_m1n, mb_x2, mb_x4, mb_x32, mb_lt_4, mb_le_4, mb_ge_4, mb_gt_4, mb_le_3, mb_gt_3, mb_le_7, mb_gt_7, mb_lt_32, mb_ge_32, mb_lt_128, mb_ge_128, mb_ge_1, mb_lt_1, mb_ge_1f, mb_lt_1t, not_true, not_false_iff, false_implies, true_implies, true_and, and_true, forall_eq, forall_const, eq_self, mb_e10, kj]
        exact K'
      · have K' := ih (i + 1) k (by omega) (by omega) (by omega)
        simp (disch := omega) only [wL_law_169, mx_kind_t, mx_kind_f, mx_home_t, mx_link_t, mx_hits_t, mx_par_t, mx_par_f, mx_reg_t, nI_clamp, vp_in_nI, nI_1, nI_add, mb_lt_t, mb_lt_f, mb_le_t, mb_le_f, mb_ne, mb_lt0, mb_le0, mb_m1, mb_m1l, mb_m1g, mb_m1n, mb_x2, mb_x4, mb_x32, mb_lt_4, mb_le_4, mb_ge_4, mb_gt_4, mb_le_3, mb_gt_3, mb_le_7, mb_gt_7, mb_lt_32, mb_ge_32, mb_lt_128, mb_ge_128, mb_ge_1, mb_lt_1, mb_ge_1f, mb_lt_1t, not_true, not_false_iff, false_implies, true_implies, true_and, and_true, forall_eq, forall_const, eq_self, mb_e10]
        exact K'
/-- a cell of the script, or 0 -/
theorem ml_cell (L : Nat) (xs : Nat → Int32) (hL : L ≤ 260) (k : Nat) (hk : k < 2 ^ 31) : ∃ v : Int32, ∀ post : Int32 → Prop, post v → wpL_cell post L xs () (nI k) := by
  by_cases h : L ≤ k
  · exact ⟨0, fun post K => br_t (nI_le h hk) K⟩
  · refine ⟨xs k, fun post K => br_f (nI_ge (by omega) (by omega)) ⟨vp_in_nI (by omega) (by omega), ?_⟩⟩
    rw [nI_clamp hk]
    exact K
end
end
section
section
variable {n p nd c : Nat} {par rev st pcs regs plen pop px py kd hm lk ht sl path : Nat → Int32}
/-- the registers after i rounds of the constructor's loop -/
def mb_rg (i : Nat) : Nat → Int32 := fun j => if j < i then -1 else 0
theorem mb_rg_s (i : Nat) : upd (mb_rg i) i (-1) = mb_rg (i + 1) := by
  funext j
  by_cases e : j = i
  · rw [e, pk_us]; exact (if_pos (by omega)).symm
  · rw [pk_un e]
    by_cases z : j < i
    · exact (if_pos z).trans (if_pos (by omega)).symm
    · exact (if_neg z).trans (if_neg (by omega)).symm
theorem mb_ge_16 {a : Nat} (h : a < 16) : (16 ≤ nI a) = False := eq_false (nI_ge (b := 16) h (by decide))
theorem mx_il {post : St2 → Prop} {mc ms kc ks : Nat} {f0 f1 f2 f3 : Int32} (K : post (f0, f1, f2, f3, par, rev, st, pcs, mb_rg 16, plen, pop, px, py, kd, hm, lk, ht, sl, path)) :
    ∀ m i : Nat, i ≤ 16 → 16 - i < m → wX_init_157 post mc ms kc ks f0 f1 f2 f3 m (nI i) par rev st pcs (mb_rg i) plen pop px py kd hm lk ht sl path := by
  intro m
  induction m with
  | zero => intro i _ z; omega
  | succ m ih =>
    intro i hi z
    by_cases e : i = 16
    · subst e
      exact br_t (by decide) K
    · have K' := ih (i + 1) (by omega) (by omega)
      have a : i < 16 := by omega
      simp (disch := omega) only [wX_init_157, nI_clamp, vp_in_nI, nI_1, nI_add, mb_lt_t, mb_lt_f, mb_le_t, mb_le_f, mb_ne, mb_lt0, mb_le0, mb_m1, mb_m1l, mb_m1g, mb_m1n, mb_x2, mb_x4, mb_x32, mb_lt_4, mb_le_4, mb_ge_4, mb_gt_4, mb_le_3, mb_gt_3, mb_le_7, mb_gt_7, mb_lt_32, mb_ge_32, mb_lt_128, mb_ge_128, mb_ge_1, mb_lt_1, mb_ge_1f, mb_lt_1t, not_true, not_false_iff, false_implies, true_implies, true_and, and_true, forall_eq, forall_const, eq_self, mb_e10, mb_ge_16, mb_rg_s]
      exact K'
def mb_CP (x : Int32) (q : Nat) : Prop := 8 ≤ q ∧ q ≤ 32 ∧ ((¬ 8 ≤ x ∧ q = 8) ∨ (8 ≤ x ∧ ¬ x ≤ 32 ∧ q = 32) ∨ (8 ≤ x ∧ x ≤ 32 ∧ x = nI q))
theorem mb_cp (x : Int32) : ∃ q, mb_CP x q := by
  by_cases h : 8 ≤ x
  · by_cases h2 : x ≤ 32
    · have h0 : ¬ x < 0 := Int32.not_lt.mpr (Int32.le_trans (by decide) h)
      obtain ⟨q, hq, rfl⟩ := nI_of h0
      have a : 8 ≤ q := (nI_leI (a := 8) (by omega) hq).mp h
      have b : q ≤ 32 := (nI_leI (b := 32) hq (by omega)).mp h2
      exact ⟨q, a, b, Or.inr (Or.inr ⟨h, h2, rfl⟩)⟩
    · exact ⟨32, by omega, by omega, Or.inr (Or.inl ⟨h, h2, rfl⟩)⟩
  · exact ⟨8, by omega, by omega, Or.inl ⟨h, rfl⟩⟩
theorem mx_cp {post : Int32 → Prop} {x : Int32} {q : Nat} (h : mb_CP x q) (K : post (nI q)) : wpX_clampSize post () x := by
  rcases h with ⟨-, -, ⟨a, rfl⟩ | ⟨a, b, rfl⟩ | ⟨a, b, rfl⟩⟩
  · exact br_f a K
  · exact br_t a (br_f b K)
  · exact br_t a (br_t b K)
/-- a new object -/
theorem ml_init (k0 k1 : Int32) : ∃ n p : Nat, mb_I n p 1 0 (upd (fun _ => 0) 0 (-1)) (fun _ => 0) (mb_rg 16) (fun _ => 0) (fun _ => 0) (fun _ => 0) (fun _ => 0) (fun _ => 0) (fun _ => 0) (fun _ => 0) (fun _ => 0) ∧
    (∀ post : St2 → Prop, post (nI n, nI p, nI 1, nI 0, (upd (fun _ => 0) 0 (-1)), (fun _ => 0), (fun _ => 0), (fun _ => 0), (mb_rg 16), (fun _ => 0), (fun _ => 0), (fun _ => 0), (fun _ => 0), (fun _ => 0), (fun _ => 0), (fun _ => 0), (fun _ => 0), (fun _ => 0), (fun _ => 0)) → wpX_init post 15 645 (0, 0, 0, 0) k0 k1) := by
  obtain ⟨n, h1⟩ := mb_cp k0
  obtain ⟨p, h2⟩ := mb_cp k1
  refine ⟨n, p, ⟨⟨by omega, h1.2.1, by omega, by omega, fun i hi => absurd hi (by omega), fun i hi => absurd hi (by omega), fun i g _ hg => absurd hg (by omega)⟩, h1.1, h2.1, h2.2.1, ⟨pk_us, fun i a b => absurd b (by omega)⟩, ⟨?_, ?_⟩, ?_⟩, ?_⟩
  · intro d r hd hr
    exact Or.inl (if_pos (by omega))
  · intro d r _ hd hr
    exact if_pos (by omega)
  · intro d hd
    exact ⟨0, 0, by omega, by omega, rfl, rfl, fun k hk => absurd hk (by omega)⟩
  · intro post K
    refine ⟨by decide, by decide, by decide, by decide, by decide, by decide, by decide, by decide, by decide, by decide, by decide, by decide, by decide, by decide, by decide, by decide, by decide, by decide, by decide, by decide, by decide, by decide, by decide, by decide, by decide, by decide, by decide, by decide, by decide, by decide, ?_⟩
    refine mx_cp h1 ?_
    refine mx_cp h2 ?_
    refine nm_e ⟨17, ?_⟩
    exact mx_il K 17 0 (by omega) (by omega)
theorem ml_k1 {k : Nat} (h : k ≤ 200) : ¬ nI k + 1 = 0 := by
  rw [nI_1]; exact nI_ne0 (by omega) (by omega)
/-- the law's loop: from any state within the invariant, both objects alike -/
theorem ml_58 {post : Int32 → Prop} {L : Nat} {xs : Nat → Int32} {kc ks : Nat} (hL : L ≤ 260) (T : Nat) (hT : T ≤ 100) (K : post 1) :
    ∀ (w t nd c : Nat) (par rev st pcs regs plen pop px py kd hm lk ht sl path : Nat → Int32), mb_I n p nd c par pcs regs plen pop px py kd hm lk sl → T - t ≤ w → t ≤ T → ∀ m, w < m → wL_law_58 post L xs (nI T) kc ks m (nI t) (nI n) (nI p) (nI nd) (nI c) par rev st pcs regs plen pop px py kd hm lk ht sl path (nI n) (nI p) (nI nd) (nI c) par rev st pcs regs plen pop px py kd hm lk ht sl path := by
  intro w
  induction w with
  | zero =>
    intro t nd c par rev st pcs regs plen pop px py kd hm lk ht sl path I hw ht' m hm0
    obtain ⟨m, rfl⟩ : ∃ q, m = q + 1 := ⟨m - 1, by omega⟩
    exact br_t (nI_le (by omega) (by omega)) K
  | succ w ih =>
    intro t nd c par rev st pcs regs plen pop px py kd hm lk ht sl path I hw ht' m hm0
    obtain ⟨m, rfl⟩ : ∃ q, m = q + 1 := ⟨m - 1, by omega⟩
    by_cases e : T ≤ t
    · exact br_t (nI_le e (by omega)) K
    · have next : ∀ x5 x6 x7 x8 : Int32, ∃ m', wL_law_169 post L xs (wL_law_58 post L xs (nI T) kc ks m) (nI T) (nI t) x5 x6 x7 x8 kc ks (nI n) (nI p) (nI nd) (nI c) par rev st pcs regs plen pop px py kd hm lk ht sl path (nI n) (nI p) (nI nd) (nI c) par rev st pcs regs plen pop px py kd hm lk ht sl path m' 0 0 := by
        intro x5 x6 x7 x8
        refine ⟨33, ml_169 I.1 (fun k hk => ?_) 33 0 0 (by omega) (by omega) (by omega)⟩
        refine ml_203 I (ml_k1 (by omega)) ?_
        intro nd' c' par' rev' st' pcs' regs' plen' pop' px' py' kd' hm' lk' ht2 sl' path' I'
        exact ih (t + 1) nd' c' par' rev' st' pcs' regs' plen' pop' px' py' kd' hm' lk' ht2 sl' path' I' (by omega) (by omega) m (by omega)
      refine br_f (nI_ge (by omega) (by omega)) ?_
      by_cases h3 : 3 ≤ t
      · obtain ⟨v0, g0⟩ := ml_cell L xs hL (5 + 4 * (t - 3)) (by omega)
        obtain ⟨v1, g1⟩ := ml_cell L xs hL (5 + 4 * (t - 3) + 1) (by omega)
        obtain ⟨v2, g2⟩ := ml_cell L xs hL (5 + 4 * (t - 3) + 2) (by omega)
        obtain ⟨v3, g3⟩ := ml_cell L xs hL (5 + 4 * (t - 3) + 3) (by omega)
        have a0 : (5 : Int32) + 4 * (nI t - 3) = nI (5 + 4 * (t - 3)) := by
          rw [show nI t - 3 = nI (t - 3) from pk_sub (b := 3) h3, show (4 : Int32) * nI (t - 3) = nI (4 * (t - 3)) from pk_mul 4 (t - 3)]
          exact nI_add 5 (4 * (t - 3))
        have a1 : nI (5 + 4 * (t - 3)) + 1 = nI (5 + 4 * (t - 3) + 1) := nI_1 _
        have a2 : nI (5 + 4 * (t - 3)) + 2 = nI (5 + 4 * (t - 3) + 2) := nI_add _ 2
        have a3 : nI (5 + 4 * (t - 3)) + 3 = nI (5 + 4 * (t - 3) + 3) := nI_add _ 3
        refine br_t (nI_le (a := 3) h3 (by omega)) (nm_r a0 ?_)
        rw [a1, a2, a3]
        unfold wpL_nn
        refine g0 _ (nm_e ?_)
        refine g1 _ ?_
        refine g2 _ ?_
        refine g3 _ ?_
        exact next _ _ _ _
      · obtain ⟨v0, g0⟩ := ml_cell L xs hL (2 + t) (by omega)
        have a0 : (2 : Int32) + nI t = nI (2 + t) := nI_add 2 t
        refine br_f (nI_ge (b := 3) (by omega) (by decide)) ?_
        rw [a0]
        unfold wpL_nn
        refine g0 _ ⟨ml_k1 (by omega), nm_e ?_⟩
        exact next _ _ _ _
end
end
section
section
theorem i_vc (xs : Nat → Int32) (L : Nat) (hL : L ≤ 260) : wpL_law (fun r => r = 1) L xs := by
  obtain ⟨v0, g0⟩ := ml_cell L xs hL 0 (by omega)
  obtain ⟨v1, g1⟩ := ml_cell L xs hL 1 (by omega)
  obtain ⟨n, p, I, hi⟩ := ml_init v0 v1
  unfold wpL_law
  refine g0 _ ?_
  refine g1 _ ?_
  refine ⟨15, 645, by omega, by omega, ?_⟩
  refine hi _ ?_
  refine And.intro (by omega) (And.intro (by omega) ?_)
  refine g0 _ ?_
  refine g1 _ ?_
  refine ⟨15, 645, by omega, by omega, ?_⟩
  refine hi _ ?_
  by_cases h5 : L ≤ 5
  · refine br_t (nI_le (b := 5) h5 (by decide)) (nm_r (show (3 : Int32) + 0 = nI 3 from by decide) ?_)
    exact ⟨4, ml_58 (post := fun r => r = 1) hL 3 (by omega) rfl 3 0 1 0 _ _ _ _ _ _ _ _ _ _ _ _ _ _ _ I (by omega) (by omega) 4 (by omega)⟩
  · have a0 : (3 : Int32) + ((Int32.ofNat L) - 5) / 4 = nI (3 + (L - 5) / 4) := by
      rw [show (Int32.ofNat L) - 5 = nI (L - 5) from pk_sub (b := 5) (by omega), show nI (L - 5) / 4 = nI ((L - 5) / 4) from pk_div (d := 4) (by omega) (by omega) (by omega)]
      exact nI_add 3 ((L - 5) / 4)
    refine br_f (nI_ge (b := L) (a := 5) (by omega) (by omega)) (And.intro (by decide) (nm_r a0 ?_))
    exact ⟨101, ml_58 (post := fun r => r = 1) hL (3 + (L - 5) / 4) (by omega) rfl 100 0 1 0 _ _ _ _ _ _ _ _ _ _ _ _ _ _ _ I (by omega) (by omega) 101 (by omega)⟩
end
end
