section
/-! the pure side: references of a domain, objects, the heap's invariant -/
def mb_rf (c : Nat) (hm : Nat → Int32) (h r : Int32) : Prop := r = -1 ∨ ∃ j : Nat, j < c ∧ r = nI j ∧ hm j = h
def mb_adj (par : Nat → Int32) (a e : Nat) : Prop := par a = nI e ∨ par e = nI a
def mb_ob (par : Nat → Int32) (nd i : Nat) (kd hm lk : Nat → Int32) : Prop :=
  ∃ a : Nat, a < nd ∧ hm i = nI a ∧ ((kd i = 1 ∧ lk i = -1) ∨ (kd i = 2 ∧ ∃ b : Nat, 1 ≤ b ∧ b < nd ∧ lk i = nI b) ∨
    (kd i = 3 ∧ ∃ t e : Nat, t < i ∧ lk i = nI t ∧ e < nd ∧ hm t = nI e ∧ mb_adj par a e ∧ ¬ (kd t = 3 ∧ hm (lk t).toNatClampNeg = nI a)))
def mb_H (n nd c : Nat) (par kd hm lk sl : Nat → Int32) : Prop :=
  c ≤ n ∧ n ≤ 32 ∧ 1 ≤ nd ∧ nd ≤ 4 ∧ (∀ i, i < c → mb_ob par nd i kd hm lk) ∧
  (∀ i, i < c → kd i = 1 → mb_rf c hm (hm i) (sl (i * 2)) ∧ mb_rf c hm (hm i) (sl (i * 2 + 1))) ∧
  (∀ i g, i < g → g < c → kd i = 3 → kd g = 3 → hm g = hm i → ¬ lk g = lk i)
def mb_E (c : Nat) (kd hm lk : Nat → Int32) (c' : Nat) (kd' hm' lk' : Nat → Int32) : Prop :=
  c ≤ c' ∧ ∀ i, i < c → kd' i = kd i ∧ hm' i = hm i ∧ lk' i = lk i
/-- objects homed outside S keep hits and slots -/
def mb_Fr (S : Int32 → Prop) (c : Nat) (hm ht sl ht' sl' : Nat → Int32) : Prop :=
  ∀ i, i < c → ¬ S (hm i) → ht' i = ht i ∧ sl' (i * 2) = sl (i * 2) ∧ sl' (i * 2 + 1) = sl (i * 2 + 1)
/-- domains outside S keep their registers -/
def mb_Fg (S : Int32 → Prop) (nd : Nat) (regs regs' : Nat → Int32) : Prop := ∀ e, e < nd → ¬ S (nI e) → ∀ r, r < 4 → regs' (e * 4 + r) = regs (e * 4 + r)
def mb_mx (a b : Nat) : Nat := if b < a then a else b
theorem mb_mx_lt {a b d : Nat} (ha : a < d) (hb : b < d) : mb_mx a b < d := by unfold mb_mx; split <;> assumption
/-- no way out of S but over a revoked membrane -/
def mb_cl (par rev : Nat → Int32) (nd : Nat) (S : Int32 → Prop) : Prop := ∀ x y, x < nd → y < nd → mb_adj par x y → S (nI x) → ¬ rev (mb_mx x y) = 0 ∨ S (nI y)
def mb_rm (rev rev' : Nat → Int32) : Prop := ∀ i, ¬ rev i = 0 → ¬ rev' i = 0
def mb_V (nd : Nat) (rev rev' : Nat → Int32) : Prop := mb_rm rev rev' ∧ ∀ i, nd ≤ i → rev' i = rev i
theorem mb_V_rf {nd : Nat} {rev : Nat → Int32} : mb_V nd rev rev := ⟨fun _ h => h, fun _ _ => rfl⟩
theorem mb_V_tr {nd : Nat} {rev rev' rev2 : Nat → Int32} (a : mb_V nd rev rev') (b : mb_V nd rev' rev2) : mb_V nd rev rev2 := ⟨fun i h => b.1 i (a.1 i h), fun i h => (b.2 i h).trans (a.2 i h)⟩
theorem mb_cl_up {par rev rev' : Nat → Int32} {nd : Nat} {S : Int32 → Prop} (h : mb_cl par rev nd S) (m : mb_rm rev rev') : mb_cl par rev' nd S :=
  fun x y hx hy a s => (h x y hx hy a s).imp (m _) id
theorem mb_adj_s {par : Nat → Int32} {a e : Nat} (h : mb_adj par a e) : mb_adj par e a := h.symm
theorem mb_rf_up {c c' : Nat} {kd hm lk kd' hm' lk' : Nat → Int32} {h r : Int32} (a : mb_rf c hm h r) (e : mb_E c kd hm lk c' kd' hm' lk') : mb_rf c' hm' h r := by
  rcases a with a | ⟨j, hj, er, eh⟩
  · exact Or.inl a
  · exact Or.inr ⟨j, Nat.lt_of_lt_of_le hj e.1, er, ((e.2 j hj).2.1).trans eh⟩
theorem mb_E_rf {c : Nat} {kd hm lk : Nat → Int32} : mb_E c kd hm lk c kd hm lk := ⟨Nat.le_refl _, fun _ _ => ⟨rfl, rfl, rfl⟩⟩
theorem mb_E_tr {c : Nat} {kd hm lk : Nat → Int32} {c' : Nat} {kd' hm' lk' : Nat → Int32} {c2 : Nat} {kd2 hm2 lk2 : Nat → Int32}
    (a : mb_E c kd hm lk c' kd' hm' lk') (b : mb_E c' kd' hm' lk' c2 kd2 hm2 lk2) : mb_E c kd hm lk c2 kd2 hm2 lk2 := by
  refine ⟨Nat.le_trans a.1 b.1, fun i hi => ?_⟩
  obtain ⟨a1, a2, a3⟩ := a.2 i hi
  obtain ⟨b1, b2, b3⟩ := b.2 i (Nat.lt_of_lt_of_le hi a.1)
  exact ⟨b1.trans a1, b2.trans a2, b3.trans a3⟩
theorem mb_Fr_rf {S : Int32 → Prop} {c : Nat} {hm ht sl : Nat → Int32} : mb_Fr S c hm ht sl ht sl := fun _ _ _ => ⟨rfl, rfl, rfl⟩
theorem mb_Fr_tr {S : Int32 → Prop} {c c1 : Nat} {kd hm lk kd1 hm1 lk1 ht sl ht1 sl1 ht2 sl2 : Nat → Int32} (a : mb_Fr S c hm ht sl ht1 sl1) (e : mb_E c kd hm lk c1 kd1 hm1 lk1) (b : mb_Fr S c1 hm1 ht1 sl1 ht2 sl2) : mb_Fr S c hm ht sl ht2 sl2 := by
  intro i hi s
  obtain ⟨a1, a2, a3⟩ := a i hi s
  obtain ⟨b1, b2, b3⟩ := b i (Nat.lt_of_lt_of_le hi e.1) (by rw [(e.2 i hi).2.1]; exact s)
  exact ⟨b1.trans a1, b2.trans a2, b3.trans a3⟩
theorem mb_Fr_hit {S : Int32 → Prop} {c cur : Nat} {hm ht sl : Nat → Int32} {v : Int32} (s : S (hm cur)) : mb_Fr S c hm ht sl (upd ht cur v) sl := by
  intro i hi z
  have e : i ≠ cur := fun e => z (by rw [e]; exact s)
  exact ⟨pk_un e, rfl, rfl⟩
theorem mb_mkE {c : Nat} {kd hm lk : Nat → Int32} {k h l : Int32} : mb_E c kd hm lk (c + 1) (upd kd c k) (upd hm c h) (upd lk c l) :=
  ⟨Nat.le_succ _, fun i hi => ⟨pk_un (by omega), pk_un (by omega), pk_un (by omega)⟩⟩
theorem mb_mkF {S : Int32 → Prop} {c : Nat} {hm ht sl : Nat → Int32} : mb_Fr S c hm ht sl (upd ht c 0) (upd (upd sl (c * 2) (-1)) (c * 2 + 1) (-1)) := by
  intro i hi _
  refine ⟨pk_un (by omega), ?_, ?_⟩
  · rw [pk_un (by omega), pk_un (by omega)]
  · rw [pk_un (by omega), pk_un (by omega)]
/-- an old object stays an object when one is made -/
theorem mb_ob_mk {par : Nat → Int32} {nd c i : Nat} {kd hm lk : Nat → Int32} {k h l : Int32} (all : ∀ j, j < c → mb_ob par nd j kd hm lk) (hc : c < 32) (hi : i < c) :
    mb_ob par nd i (upd kd c k) (upd hm c h) (upd lk c l) := by
  obtain ⟨a, ha, ea, hk⟩ := all i hi
  refine ⟨a, ha, by rw [pk_un (by omega)]; exact ea, ?_⟩
  rw [pk_un (show i ≠ c by omega), pk_un (show i ≠ c by omega)]
  rcases hk with hk | hk | ⟨hk, t, e, ht, et, he, ee, had, hno⟩
  · exact Or.inl hk
  · exact Or.inr (Or.inl hk)
  · refine Or.inr (Or.inr ⟨hk, t, e, ht, et, he, by rw [pk_un (by omega)]; exact ee, had, ?_⟩)
    rw [pk_un (show t ≠ c by omega), pk_un (show t ≠ c by omega)]
    rintro ⟨k3, q⟩
    obtain ⟨a2, -, -, hk2⟩ := all t (by omega)
    rcases hk2 with ⟨z, -⟩ | ⟨z, -⟩ | ⟨-, t2, e2, ht2, et2, -⟩
    · rw [k3] at z; exact absurd z (by decide)
    · rw [k3] at z; exact absurd z (by decide)
    · rw [et2, nI_clamp (by omega), pk_un (by omega)] at q
      exact hno ⟨k3, by rw [et2, nI_clamp (by omega)]; exact q⟩
theorem mb_mk {n nd c : Nat} {par kd hm lk sl : Nat → Int32} (H : mb_H n nd c par kd hm lk sl) (hc : c < n) {k h l : Int32} (ho : mb_ob par nd c (upd kd c k) (upd hm c h) (upd lk c l))
    (hu : k = 3 → ∀ i, i < c → ¬ (kd i = 3 ∧ hm i = h ∧ lk i = l)) :
    mb_H n nd (c + 1) par (upd kd c k) (upd hm c h) (upd lk c l) (upd (upd sl (c * 2) (-1)) (c * 2 + 1) (-1)) := by
  obtain ⟨h1, h2, h3, h4, h5, h6, h7⟩ := H
  refine ⟨hc, h2, h3, h4, ?_, ?_, ?_⟩
  · intro i hi
    by_cases e : i = c
    · rw [e]; exact ho
    · exact mb_ob_mk h5 (by omega) (by omega)
  · intro i hi k1
    by_cases e : i = c
    · subst e
      refine ⟨Or.inl ?_, Or.inl pk_us⟩
      rw [pk_un (by omega), pk_us]
    · rw [pk_un e] at k1
      obtain ⟨s0, s1⟩ := h6 i (by omega) k1
      rw [pk_un e, pk_un (show i * 2 ≠ c * 2 + 1 by omega), pk_un (show i * 2 ≠ c * 2 by omega), pk_un (show i * 2 + 1 ≠ c * 2 + 1 by omega), pk_un (show i * 2 + 1 ≠ c * 2 by omega)]
      exact ⟨mb_rf_up s0 (mb_mkE (kd := kd) (lk := lk) (k := k) (l := l)), mb_rf_up s1 (mb_mkE (kd := kd) (lk := lk) (k := k) (l := l))⟩
  · intro i g hig hg ki kg eh
    have ei : i ≠ c := by omega
    rw [pk_un ei] at ki
    by_cases e : g = c
    · subst e
      rw [pk_us] at kg
      rw [pk_us, pk_un ei] at eh
      rw [pk_us, pk_un ei]
      exact fun el => hu kg i hig ⟨ki, eh.symm, el.symm⟩
    · rw [pk_un e] at kg
      rw [pk_un e, pk_un ei] at eh
      rw [pk_un e, pk_un ei]
      exact h7 i g hig (by omega) ki kg eh
theorem mb_set {n nd c : Nat} {par kd hm lk sl : Nat → Int32} (H : mb_H n nd c par kd hm lk sl) {j i q : Nat} (hq : q = 0 ∨ q = 1) (hj : j = i * 2 + q) {v : Int32} (hv : mb_rf c hm (hm i) v) : mb_H n nd c par kd hm lk (upd sl j v) := by
  obtain ⟨h1, h2, h3, h4, h5, h6, h7⟩ := H
  refine ⟨h1, h2, h3, h4, h5, fun i' hi k1 => ?_, h7⟩
  obtain ⟨s0, s1⟩ := h6 i' hi k1
  refine ⟨?_, ?_⟩
  · by_cases e : i' * 2 = j
    · have z : i' = i := by omega
      rw [e, pk_us, z]; exact hv
    · rw [pk_un e]; exact s0
  · by_cases e : i' * 2 + 1 = j
    · have z : i' = i := by omega
      rw [e, pk_us, z]; exact hv
    · rw [pk_un e]; exact s1
/-- a new domain: the parents of old domains stay -/
theorem mb_nd {n nd c : Nat} {par kd hm lk sl : Nat → Int32} (H : mb_H n nd c par kd hm lk sl) (hd : nd < 4) (v : Int32) : mb_H n (nd + 1) c (upd par nd v) kd hm lk sl := by
  obtain ⟨h1, h2, h3, h4, h5, h6, h7⟩ := H
  refine ⟨h1, h2, by omega, by omega, fun i hi => ?_, h6, h7⟩
  obtain ⟨a, ha, ea, hk⟩ := h5 i hi
  refine ⟨a, by omega, ea, ?_⟩
  rcases hk with hk | ⟨hk, b, b1, b2, eb⟩ | ⟨hk, t, e, ht, et, he, ee, had, hno⟩
  · exact Or.inl hk
  · exact Or.inr (Or.inl ⟨hk, b, b1, by omega, eb⟩)
  · refine Or.inr (Or.inr ⟨hk, t, e, ht, et, by omega, ee, ?_, hno⟩)
    unfold mb_adj
    rw [pk_un (show a ≠ nd by omega), pk_un (show e ≠ nd by omega)]
    exact had
theorem mb_first (P : Nat → Prop) : ∀ c : Nat, (∃ f, f < c ∧ P f ∧ ∀ j, j < f → ¬ P j) ∨ (∀ j, j < c → ¬ P j) := by
  intro c
  induction c with
  | zero => exact Or.inr (fun j hj => absurd hj (by omega))
  | succ c ih =>
    rcases ih with ⟨f, hf, hp, hm⟩ | h
    · exact Or.inl ⟨f, by omega, hp, hm⟩
    · rcases Classical.em (P c) with hp | hp
      · exact Or.inl ⟨c, by omega, hp, h⟩
      · refine Or.inr (fun j hj => ?_)
        by_cases e : j = c
        · rw [e]; exact hp
        · exact h j (by omega)
theorem mb_n1 : ∀ {j : Nat}, j < 2 ^ 31 → ¬ nI j = -1 := by
  intro j hj e
  have h := nI_pos hj
  rw [e] at h
  exact h (by decide)
/-! the rest of the state -/
def mb_P (nd : Nat) (par : Nat → Int32) : Prop := par 0 = -1 ∧ ∀ i, 1 ≤ i → i < nd → ∃ j : Nat, j < i ∧ par i = nI j
def mb_R (nd c : Nat) (hm regs : Nat → Int32) : Prop := (∀ d r, d < nd → r < 4 → mb_rf c hm (nI d) (regs (d * 4 + r))) ∧ (∀ d r, nd ≤ d → d < 4 → r < 4 → regs (d * 4 + r) = -1)
def mb_G (pcs plen pop px py : Nat → Int32) : Prop :=
  ∀ d, d < 4 → ∃ l q : Nat, l ≤ 32 ∧ q ≤ l ∧ plen d = nI l ∧ pcs d = nI q ∧ ∀ k, k < l → ∃ o x y : Nat, o < 8 ∧ x < 4 ∧ y < 4 ∧ pop (d * 32 + k) = nI o ∧ px (d * 32 + k) = nI x ∧ py (d * 32 + k) = nI y
def mb_I (n p nd c : Nat) (par pcs regs plen pop px py kd hm lk sl : Nat → Int32) : Prop :=
  mb_H n nd c par kd hm lk sl ∧ 8 ≤ n ∧ 8 ≤ p ∧ p ≤ 32 ∧ mb_P nd par ∧ mb_R nd c hm regs ∧ mb_G pcs plen pop px py
theorem mb_R_up {nd c c' : Nat} {kd hm lk kd' hm' lk' regs : Nat → Int32} (h : mb_R nd c hm regs) (e : mb_E c kd hm lk c' kd' hm' lk') : mb_R nd c' hm' regs :=
  ⟨fun d r hd hr => mb_rf_up (h.1 d r hd hr) e, h.2⟩
theorem mb_R_set {nd c : Nat} {hm regs : Nat → Int32} (h : mb_R nd c hm regs) {d x : Nat} (hd : d < nd) (hx : x < 4) {v : Int32} (hv : mb_rf c hm (nI d) v) : mb_R nd c hm (upd regs (d * 4 + x) v) := by
  refine ⟨fun d' r hd' hr => ?_, fun d' r a b hr => ?_⟩
  · by_cases e : d' * 4 + r = d * 4 + x
    · have z : d' = d := by omega
      rw [e, pk_us, z]; exact hv
    · rw [pk_un e]; exact h.1 d' r hd' hr
  · rw [pk_un (by omega)]; exact h.2 d' r a b hr
theorem mb_R_nd {nd c : Nat} {hm regs : Nat → Int32} (h : mb_R nd c hm regs) (h4 : nd < 4) : mb_R (nd + 1) c hm regs := by
  refine ⟨fun d r hd hr => ?_, fun d r a b hr => h.2 d r (by omega) b hr⟩
  by_cases e : d = nd
  · exact Or.inl (h.2 d r (by omega) (by omega) hr)
  · exact h.1 d r (by omega) hr
theorem mb_Fg_rf {S : Int32 → Prop} {nd : Nat} {regs : Nat → Int32} : mb_Fg S nd regs regs := fun _ _ _ _ _ => rfl
theorem mb_Fg_set {S : Int32 → Prop} {nd d x : Nat} {regs : Nat → Int32} {v : Int32} (hx : x < 4) (s : S (nI d)) : mb_Fg S nd regs (upd regs (d * 4 + x) v) := by
  intro e he z r hr
  have n1 : e ≠ d := fun q => z (by rw [q]; exact s)
  exact pk_un (by omega)
theorem mb_Fg_tr {S : Int32 → Prop} {nd : Nat} {regs regs1 regs2 : Nat → Int32} (a : mb_Fg S nd regs regs1) (b : mb_Fg S nd regs1 regs2) : mb_Fg S nd regs regs2 :=
  fun e he z r hr => (b e he z r hr).trans (a e he z r hr)
theorem mb_P_nd {nd : Nat} {par : Nat → Int32} (h : mb_P nd par) (h0 : 1 ≤ nd) {j : Nat} (hj : j < nd) : mb_P (nd + 1) (upd par nd (nI j)) := by
  refine ⟨?_, fun i h1 h2 => ?_⟩
  · rw [pk_un (by omega)]; exact h.1
  · by_cases e : i = nd
    · rw [e, pk_us]; exact ⟨j, hj, rfl⟩
    · rw [pk_un e]; exact h.2 i h1 (by omega)
theorem mb_G_pc {pcs plen pop px py : Nat → Int32} (h : mb_G pcs plen pop px py) {d l q : Nat} (hd : d < 4) (hl : plen d = nI l) (hl2 : l ≤ 32) (hq : q ≤ l) : mb_G (upd pcs d (nI q)) plen pop px py := by
  intro i hi
  obtain ⟨l', q', a, b, e, f, g⟩ := h i hi
  by_cases z : i = d
  · subst z
    have : l' = l := (nI_eq (by omega) (by omega)).mp (e.symm.trans hl)
    subst this
    exact ⟨l', q, a, hq, e, pk_us, g⟩
  · exact ⟨l', q', a, b, e, by rw [pk_un z]; exact f, g⟩
theorem mb_G_emit {pcs plen pop px py : Nat → Int32} (h : mb_G pcs plen pop px py) {d l o x y : Nat} (hd : d < 4) (hl : plen d = nI l) (hl2 : l < 32) (ho : o < 8) (hx : x < 4) (hy : y < 4) :
    mb_G pcs (upd plen d (nI (l + 1))) (upd pop (d * 32 + l) (nI o)) (upd px (d * 32 + l) (nI x)) (upd py (d * 32 + l) (nI y)) := by
  intro i hi
  obtain ⟨l', q', a, b, e, f, g⟩ := h i hi
  by_cases z : i = d
  · subst z
    have : l' = l := (nI_eq (by omega) (by omega)).mp (e.symm.trans hl)
    subst this
    refine ⟨l' + 1, q', by omega, by omega, pk_us, f, fun k hk => ?_⟩
    by_cases zk : k = l'
    · subst zk
      exact ⟨o, x, y, ho, hx, hy, pk_us, pk_us, pk_us⟩
    · rw [pk_un (by omega), pk_un (by omega), pk_un (by omega)]
      exact g k (by omega)
  · refine ⟨l', q', a, b, by rw [pk_un z]; exact e, f, fun k hk => ?_⟩
    rw [pk_un (by omega), pk_un (by omega), pk_un (by omega)]
    exact g k hk
/-! the way of an invocation -/
def mb_W (par : Nat → Int32) (nd k : Nat) (g : Nat → Nat) (path : Nat → Int32) : Prop :=
  (∀ i, i ≤ k → g i < nd ∧ path i = nI (g i)) ∧ (∀ i, i < k → mb_adj par (g i) (g (i + 1)))
theorem mb_W_0 {par : Nat → Int32} {nd d : Nat} {path : Nat → Int32} (hd : d < nd) : mb_W par nd 0 (fun _ => d) (upd path 0 (nI d)) := by
  refine ⟨fun i hi => ⟨hd, ?_⟩, fun i hi => absurd hi (by omega)⟩
  have e : i = 0 := by omega
  rw [e, pk_us]
theorem mb_W_s {par : Nat → Int32} {nd k : Nat} {g : Nat → Nat} {path : Nat → Int32} (h : mb_W par nd k g path) {e : Nat} (he' : e < nd) (ha : mb_adj par (g k) e) :
    mb_W par nd (k + 1) (fun i => if i = k + 1 then e else g i) (upd path (k + 1) (nI e)) := by
  refine ⟨fun i hi => ?_, fun i hi => ?_⟩
  · by_cases z : i = k + 1
    · subst z
      refine ⟨?_, ?_⟩
      · simp only [if_true]; exact he'
      · rw [pk_us]; simp only [if_true]
    · refine ⟨?_, ?_⟩
      · simp only [if_neg z]; exact (h.1 i (by omega)).1
      · rw [pk_un z]; simp only [if_neg z]; exact (h.1 i (by omega)).2
  · have z1 : ¬ i = k + 1 := by omega
    by_cases z : i = k
    · subst z
      simp only [if_neg z1, if_true]
      exact ha
    · have z2 : ¬ i + 1 = k + 1 := by omega
      simp only [if_neg z1, if_neg z2]
      exact h.2 i (by omega)
theorem mb_W_dn {par : Nat → Int32} {nd k : Nat} {g : Nat → Nat} {path : Nat → Int32} (h : mb_W par nd (k + 1) g path) : mb_W par nd k g path :=
  ⟨fun i hi => h.1 i (by omega), fun i hi => h.2 i (by omega)⟩
/-- an answer: a reference of the domain, or a fault -/
def mb_A (c : Nat) (hm : Nat → Int32) (h rX : Int32) : Prop := mb_rf c hm h rX ∨ (∃ e : Nat, 1 ≤ e ∧ e ≤ 3 ∧ rX = -1 - nI e)
theorem mb_H_ob {n nd c : Nat} {par kd hm lk sl : Nat → Int32} (H : mb_H n nd c par kd hm lk sl) {i : Nat} (hi : i < c) : mb_ob par nd i kd hm lk := H.2.2.2.2.1 i hi
theorem mb_fw {par : Nat → Int32} {nd i : Nat} {kd hm lk : Nat → Int32} (o : mb_ob par nd i kd hm lk) (k3 : kd i = 3) :
    ∃ a t e : Nat, a < nd ∧ hm i = nI a ∧ t < i ∧ lk i = nI t ∧ e < nd ∧ hm t = nI e ∧ mb_adj par a e ∧ ¬ (kd t = 3 ∧ hm (lk t).toNatClampNeg = nI a) := by
  obtain ⟨a, ha, ea, ⟨q, -⟩ | ⟨q, -⟩ | ⟨-, t, e, h⟩⟩ := o
  · rw [k3] at q; exact absurd q (by decide)
  · rw [k3] at q; exact absurd q (by decide)
  · exact ⟨a, t, e, ha, ea, h⟩
end
