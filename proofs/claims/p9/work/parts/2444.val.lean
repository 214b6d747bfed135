/-- a number within a million -/
def kClm (x : Int) : Int32 := Int32.ofInt (max (-1000000) (min 1000000 x))
/-- two numbers joined by a sign -/
def kJi (s l r : Int32) : Int :=
  if s = 43 then l.toInt + r.toInt else if s = 45 then l.toInt - r.toInt else if s = 42 then l.toInt * r.toInt
  else if s = 47 then (if r = 0 then 0 else (l / r).toInt) else if s = 61 then (if l = r then 1 else 0) else if s = 60 then (if l < r then 1 else 0)
  else if s = 62 then (if r < l then 1 else 0) else if s = 38 then (l &&& r).toInt else (l ||| r).toInt
def kJn (s l r : Int32) : Int32 := kClm (kJi s l r)
/-- what a step lays on the stack -/
def kStv (lt : Nat → Int32) (x : Int32) : Int32 := if x - 10000 < 0 then x else if x - 10000 < 8 then lt (Int32.toNatClampNeg (x - 10000)) else x
def kEv1 (lt : Nat → Int32) (x : Int32) (st : List Int32) : List Int32 :=
  if x < 20000 then kStv lt x :: st
  else if x = 20033 then (match st with
    | a :: r => (if a = 0 then 1 else 0) :: r
    | [] => [])
  else (match st with
    | b :: a :: r => kJn (x - 20000) a b :: r
    | r => r)
def kEv (lt : Nat → Int32) : List Int32 → List Int32 → List Int32
  | [], st => st
  | x :: l, st => kEv lt l (kEv1 lt x st)
theorem kEv_app (lt : Nat → Int32) (m : List Int32) : ∀ (l st : List Int32), kEv lt (l ++ m) st = kEv lt m (kEv lt l st) := by
  intro l
  induction l with
  | nil => intro st; rfl
  | cons x l ih => intro st; exact ih (kEv1 lt x st)
theorem kLt20 {v : Nat} (h : v < 20000) : nI v < 20000 := nI_lt (a := v) (b := 20000) h (by decide)
/-- a sum, as steps: how high it lays the stack -/
def kWn (M h : Nat) (l : List Int32) : Prop := ∀ P : Nat → List Int32 → Prop, (∀ v : Nat, v < 10000 → P 1 [nI v]) → (∀ k : Nat, k < M → k < 8 → P 1 [nI (10000 + k)]) → (∀ (a b s : Nat) (l m : List Int32), P a l → P b m → (s = 43 ∨ s = 45 ∨ s = 42 ∨ s = 47) → P (max a (b + 1)) (l ++ m ++ [nI (20000 + s)])) → P h l
theorem kWn.num {M v : Nat} (h : v < 10000) : kWn M 1 [nI v] := fun _ c1 _ _ => c1 v h
theorem kWn.ltr {M k : Nat} (h : k < M) (h8 : k < 8) : kWn M 1 [nI (10000 + k)] := fun _ _ c2 _ => c2 k h h8
theorem kWn.bin {M a b s : Nat} {l m : List Int32} (h1 : kWn M a l) (h2 : kWn M b m) (hs : (s = 43 ∨ s = 45 ∨ s = 42 ∨ s = 47)) : kWn M (max a (b + 1)) (l ++ m ++ [nI (20000 + s)]) := fun P c1 c2 c3 => c3 a b s l m (h1 P c1 c2 c3) (h2 P c1 c2 c3) hs
theorem kWn_ind {M : Nat} {P : Nat → List Int32 → Prop} (c1 : ∀ v : Nat, v < 10000 → P 1 [nI v]) (c2 : ∀ k : Nat, k < M → k < 8 → P 1 [nI (10000 + k)]) (c3 : ∀ (a b s : Nat) (l m : List Int32), kWn M a l → kWn M b m → (s = 43 ∨ s = 45 ∨ s = 42 ∨ s = 47) → P a l → P b m → P (max a (b + 1)) (l ++ m ++ [nI (20000 + s)])) {h : Nat} {l : List Int32} (w : kWn M h l) : P h l :=
  (w (fun h l => kWn M h l ∧ P h l) (fun v hv => ⟨kWn.num hv, c1 v hv⟩) (fun k hk h8 => ⟨kWn.ltr hk h8, c2 k hk h8⟩) (fun a b s l m x y hs => ⟨kWn.bin x.1 y.1 hs, c3 a b s l m x.1 y.1 hs x.2 y.2⟩)).2
/-- a condition, as steps -/
def kWb (M h : Nat) (l : List Int32) : Prop := ∀ P : Nat → List Int32 → Prop, (∀ (a b s : Nat) (l m : List Int32), kWn M a l → kWn M b m → (s = 61 ∨ s = 60 ∨ s = 62) → P (max a (b + 1)) (l ++ m ++ [nI (20000 + s)])) → (∀ (a : Nat) (l : List Int32), P a l → P a (l ++ [20033])) → (∀ (a b s : Nat) (l m : List Int32), P a l → P b m → (s = 38 ∨ s = 124) → P (max a (b + 1)) (l ++ m ++ [nI (20000 + s)])) → P h l
theorem kWb.cmp {M a b s : Nat} {l m : List Int32} (h1 : kWn M a l) (h2 : kWn M b m) (hs : (s = 61 ∨ s = 60 ∨ s = 62)) : kWb M (max a (b + 1)) (l ++ m ++ [nI (20000 + s)]) := fun _ c1 _ _ => c1 a b s l m h1 h2 hs
theorem kWb.neg {M a : Nat} {l : List Int32} (h1 : kWb M a l) : kWb M a (l ++ [20033]) := fun P c1 c2 c3 => c2 a l (h1 P c1 c2 c3)
theorem kWb.bin {M a b s : Nat} {l m : List Int32} (h1 : kWb M a l) (h2 : kWb M b m) (hs : (s = 38 ∨ s = 124)) : kWb M (max a (b + 1)) (l ++ m ++ [nI (20000 + s)]) := fun P c1 c2 c3 => c3 a b s l m (h1 P c1 c2 c3) (h2 P c1 c2 c3) hs
theorem kWb_ind {M : Nat} {P : Nat → List Int32 → Prop} (c1 : ∀ (a b s : Nat) (l m : List Int32), kWn M a l → kWn M b m → (s = 61 ∨ s = 60 ∨ s = 62) → P (max a (b + 1)) (l ++ m ++ [nI (20000 + s)])) (c2 : ∀ (a : Nat) (l : List Int32), kWb M a l → P a l → P a (l ++ [20033])) (c3 : ∀ (a b s : Nat) (l m : List Int32), kWb M a l → kWb M b m → (s = 38 ∨ s = 124) → P a l → P b m → P (max a (b + 1)) (l ++ m ++ [nI (20000 + s)])) {h : Nat} {l : List Int32} (w : kWb M h l) : P h l :=
  (w (fun h l => kWb M h l ∧ P h l) (fun a b s l m x y hs => ⟨kWb.cmp x y hs, c1 a b s l m x y hs⟩) (fun a l x => ⟨kWb.neg x.1, c2 a l x.1 x.2⟩) (fun a b s l m x y hs => ⟨kWb.bin x.1 y.1 hs, c3 a b s l m x.1 y.1 hs x.2 y.2⟩)).2
def kVal (lt : Nat → Int32) (l : List Int32) : Int32 := (kEv lt l []).headD 0
theorem kSgnF : ∀ s : Fin 128, ¬ nI (20000 + s.val) < 20000 ∧ nI (20000 + s.val) - 20000 = nI s.val ∧ (nI (20000 + s.val) = 20033 → s.val = 33) := by decide +kernel
theorem kEv1_s {lt : Nat → Int32} {s : Nat} {a b : Int32} {st : List Int32} (hs : s < 128) (h33 : ¬ s = 33) : kEv1 lt (nI (20000 + s)) (b :: a :: st) = kJn (nI s) a b :: st := by
  have h := kSgnF ⟨s, hs⟩
  unfold kEv1
  rw [if_neg h.1, if_neg (fun z => h33 (h.2.2 z)), h.2.1]
theorem kEv1_n {lt : Nat → Int32} {a : Int32} {st : List Int32} : kEv1 lt 20033 (a :: st) = (if a = 0 then 1 else 0) :: st := by
  unfold kEv1
  rw [if_neg (by decide), if_pos rfl]
theorem kEv_of {lt : Nat → Int32} {l : List Int32} (h : ∃ v : Int32, ∀ st : List Int32, kEv lt l st = v :: st) : ∀ st : List Int32, kEv lt l st = kVal lt l :: st := by
  obtain ⟨v, hv⟩ := h
  intro st
  unfold kVal
  rw [hv st, hv []]
  rfl
theorem kEv_join {lt : Nat → Int32} {l m : List Int32} {s : Nat} (h1 : ∀ st : List Int32, kEv lt l st = kVal lt l :: st) (h2 : ∀ st : List Int32, kEv lt m st = kVal lt m :: st) (hs : s < 128) (h33 : ¬ s = 33) : ∀ st : List Int32, kEv lt (l ++ m ++ [nI (20000 + s)]) st = kJn (nI s) (kVal lt l) (kVal lt m) :: st := by
  intro st
  rw [kEv_app, kEv_app, h1, h2]
  show kEv lt [] (kEv1 lt (nI (20000 + s)) (kVal lt m :: kVal lt l :: st)) = _
  rw [kEv1_s hs h33]
  rfl
theorem kWn_ev {lt : Nat → Int32} {M h : Nat} {l : List Int32} (w : kWn M h l) : ∀ st : List Int32, kEv lt l st = kVal lt l :: st := by
  refine kWn_ind (P := fun _ l => ∀ st : List Int32, kEv lt l st = kVal lt l :: st) ?_ ?_ ?_ w
  · intro v hv
    refine kEv_of ⟨kStv lt (nI v), fun st => ?_⟩
    show kEv lt [] (kEv1 lt (nI v) st) = _
    unfold kEv1
    rw [if_pos (kLt20 (by omega))]
    rfl
  · intro k hk h8
    refine kEv_of ⟨kStv lt (nI (10000 + k)), fun st => ?_⟩
    show kEv lt [] (kEv1 lt (nI (10000 + k)) st) = _
    unfold kEv1
    rw [if_pos (kLt20 (by omega))]
    rfl
  · intro a b s l m h1 h2 hs i1 i2
    exact kEv_of ⟨_, kEv_join i1 i2 (by omega) (by omega)⟩
theorem kWb_ev {lt : Nat → Int32} {M h : Nat} {l : List Int32} (w : kWb M h l) : ∀ st : List Int32, kEv lt l st = kVal lt l :: st := by
  refine kWb_ind (P := fun _ l => ∀ st : List Int32, kEv lt l st = kVal lt l :: st) ?_ ?_ ?_ w
  · intro a b s l m h1 h2 hs
    exact kEv_of ⟨_, kEv_join (kWn_ev h1) (kWn_ev h2) (by omega) (by omega)⟩
  · intro a l h1 i1
    refine kEv_of ⟨(if kVal lt l = 0 then 1 else 0), fun st => ?_⟩
    rw [kEv_app, i1]
    show kEv lt [] (kEv1 lt 20033 (kVal lt l :: st)) = _
    rw [kEv1_n]
    rfl
  · intro a b s l m h1 h2 hs i1 i2
    exact kEv_of ⟨_, kEv_join i1 i2 (by omega) (by omega)⟩
theorem kVal_num {lt : Nat → Int32} {v : Nat} (h : v < 20000) : kVal lt [nI v] = kStv lt (nI v) := by
  show (kEv lt [] (kEv1 lt (nI v) [])).headD 0 = _
  unfold kEv1
  rw [if_pos (kLt20 h)]
  rfl
theorem kVal_n {lt : Nat → Int32} {M a b s : Nat} {l m : List Int32} (h1 : kWn M a l) (h2 : kWn M b m) (hs : s < 128) (h33 : ¬ s = 33) : kVal lt (l ++ m ++ [nI (20000 + s)]) = kJn (nI s) (kVal lt l) (kVal lt m) := by
  show (kEv lt _ []).headD 0 = _
  rw [kEv_join (kWn_ev h1) (kWn_ev h2) hs h33]
  rfl
theorem kVal_b {lt : Nat → Int32} {M a b s : Nat} {l m : List Int32} (h1 : kWb M a l) (h2 : kWb M b m) (hs : s < 128) (h33 : ¬ s = 33) : kVal lt (l ++ m ++ [nI (20000 + s)]) = kJn (nI s) (kVal lt l) (kVal lt m) := by
  show (kEv lt _ []).headD 0 = _
  rw [kEv_join (kWb_ev h1) (kWb_ev h2) hs h33]
  rfl
theorem kVal_not {lt : Nat → Int32} {M a : Nat} {l : List Int32} (h1 : kWb M a l) : kVal lt (l ++ [20033]) = if kVal lt l = 0 then 1 else 0 := by
  show (kEv lt _ []).headD 0 = _
  rw [kEv_app, kWb_ev h1]
  show (kEv lt [] (kEv1 lt 20033 _)).headD 0 = _
  rw [kEv1_n]
  rfl
theorem kTh_i {r : kRes} {k : Nat → List Int32 → kRes} {q : Nat} {l : List Int32} (h : kTh r k = (true, q, l)) : ∃ (p : Nat) (x : List Int32), r = (true, p, x) ∧ k p x = (true, q, l) := by
  obtain ⟨o, p, x⟩ := r
  cases o with
  | true => exact ⟨p, x, rfl, h⟩
  | false => exact absurd (Prod.mk.inj (show ((false, p, []) : kRes) = (true, q, l) from h)).1 (by decide)
theorem kTk_i {b : Nat → Nat} {n c p q : Nat} {x l : List Int32} (h : kTk b n c p x = (true, q, l)) : l = x := by
  unfold kTk at h
  split at h
  · exact ((Prod.mk.inj (Prod.mk.inj h).2).2).symm
  · exact absurd (Prod.mk.inj h).1 (by decide)
/-- sums no higher than so much -/
def kHn (M H : Nat) (l : List Int32) : Prop := ∃ h : Nat, h ≤ H ∧ kWn M h l
def kHb (M H : Nat) (l : List Int32) : Prop := ∃ h : Nat, h ≤ H ∧ kWb M h l
def kRn (M H : Nat) (a : Nat → kRes) : Prop := ∀ (p q : Nat) (l : List Int32), a p = (true, q, l) → kHn M H l
def kRb (M H : Nat) (a : Nat → kRes) : Prop := ∀ (p q : Nat) (l : List Int32), a p = (true, q, l) → kHb M H l
theorem kHn_le {M : Nat} {H K : Nat} {l : List Int32} (h : kHn M H l) (hk : H ≤ K) : kHn M K l := by obtain ⟨x, h1, h2⟩ := h; exact ⟨x, by omega, h2⟩
theorem kHb_le {M : Nat} {H K : Nat} {l : List Int32} (h : kHb M H l) (hk : H ≤ K) : kHb M K l := by obtain ⟨x, h1, h2⟩ := h; exact ⟨x, by omega, h2⟩
theorem kHn_bin {M : Nat} {A H s : Nat} {l m : List Int32} (h1 : kHn M H l) (h2 : kHn M A m) (hA : A + 1 ≤ H) (hs : s = 43 ∨ s = 45 ∨ s = 42 ∨ s = 47) : kHn M H (l ++ m ++ [nI (20000 + s)]) := by
  obtain ⟨x, x1, x2⟩ := h1
  obtain ⟨y, y1, y2⟩ := h2
  exact ⟨max x (y + 1), by omega, kWn.bin x2 y2 hs⟩
theorem kHb_bin {M : Nat} {A H s : Nat} {l m : List Int32} (h1 : kHb M H l) (h2 : kHb M A m) (hA : A + 1 ≤ H) (hs : s = 38 ∨ s = 124) : kHb M H (l ++ m ++ [nI (20000 + s)]) := by
  obtain ⟨x, x1, x2⟩ := h1
  obtain ⟨y, y1, y2⟩ := h2
  exact ⟨max x (y + 1), by omega, kWb.bin x2 y2 hs⟩
theorem kLoop_n {M : Nat} {b : Nat → Nat} {n c1 c2 A H : Nat} {a : Nat → kRes} (ha : kRn M A a) (hA : A + 1 ≤ H) (hc1 : c1 = 43 ∨ c1 = 45 ∨ c1 = 42 ∨ c1 = 47) (hc2 : c2 = 43 ∨ c2 = 45 ∨ c2 = 42 ∨ c2 = 47) : ∀ (f p q : Nat) (l r : List Int32), kHn M H l → kLoop b n c1 c2 a f p l = (true, q, r) → kHn M H r := by
  intro f
  induction f with
  | zero => intro p q l r hl h; rw [← (Prod.mk.inj (Prod.mk.inj (show ((true, p, l) : kRes) = (true, q, r) from h)).2).2]; exact hl
  | succ f ih =>
    intro p q l r hl h
    by_cases z : kLk b n p = c1 ∨ kLk b n p = c2
    · have h2 : kTh (a (kSp b n p + 1)) (fun q m => kLoop b n c1 c2 a f q (l ++ m ++ [nI (20000 + kLk b n p)])) = (true, q, r) := (if_pos z).symm.trans h
      obtain ⟨p2, x, h3, h4⟩ := kTh_i h2
      exact ih p2 q _ r (kHn_bin hl (ha _ _ _ h3) hA (by omega)) h4
    · rw [kLoop_e z] at h
      rw [← (Prod.mk.inj (Prod.mk.inj h).2).2]; exact hl
theorem kLoop_b {M : Nat} {b : Nat → Nat} {n c A H : Nat} {a : Nat → kRes} (ha : kRb M A a) (hA : A + 1 ≤ H) (hc : c = 38 ∨ c = 124) : ∀ (f p q : Nat) (l r : List Int32), kHb M H l → kLoop b n c c a f p l = (true, q, r) → kHb M H r := by
  intro f
  induction f with
  | zero => intro p q l r hl h; rw [← (Prod.mk.inj (Prod.mk.inj (show ((true, p, l) : kRes) = (true, q, r) from h)).2).2]; exact hl
  | succ f ih =>
    intro p q l r hl h
    by_cases z : kLk b n p = c ∨ kLk b n p = c
    · have h2 : kTh (a (kSp b n p + 1)) (fun q m => kLoop b n c c a f q (l ++ m ++ [nI (20000 + kLk b n p)])) = (true, q, r) := (if_pos z).symm.trans h
      obtain ⟨p2, x, h3, h4⟩ := kTh_i h2
      exact ih p2 q _ r (kHb_bin hl (ha _ _ _ h3) hA (by omega)) h4
    · rw [kLoop_e z] at h
      rw [← (Prod.mk.inj (Prod.mk.inj h).2).2]; exact hl
theorem kMany_n {M : Nat} {b : Nat → Nat} {n c1 c2 A : Nat} {a z : Nat → kRes} (ha : kRn M A a) (hz : kRn M (A + 1) z) (hc1 : c1 = 43 ∨ c1 = 45 ∨ c1 = 42 ∨ c1 = 47) (hc2 : c2 = 43 ∨ c2 = 45 ∨ c2 = 42 ∨ c2 = 47) : kRn M (A + 1) (kMany b n c1 c2 a z) := by
  intro p q l h
  obtain ⟨p2, x, h1, h2⟩ := kTh_i h
  exact kLoop_n ha (Nat.le_refl _) hc1 hc2 120 p2 q x l (hz _ _ _ h1) h2
theorem kMany_b {M : Nat} {b : Nat → Nat} {n c A : Nat} {a z : Nat → kRes} (ha : kRb M A a) (hz : kRb M (A + 1) z) (hc : c = 38 ∨ c = 124) : kRb M (A + 1) (kMany b n c c a z) := by
  intro p q l h
  obtain ⟨p2, x, h1, h2⟩ := kTh_i h
  exact kLoop_b ha (Nat.le_refl _) hc 120 p2 q x l (hz _ _ _ h1) h2
theorem kRn_le {M : Nat} {H K : Nat} {a : Nat → kRes} (h : kRn M H a) (hk : H ≤ K) : kRn M K a := fun p q l e => kHn_le (h p q l e) hk
theorem kRb_le {M : Nat} {H K : Nat} {a : Nat → kRes} (h : kRb M H a) (hk : H ≤ K) : kRb M K a := fun p q l e => kHb_le (h p q l e) hk
theorem kNumL_v {b : Nat → Nat} {n : Nat} : ∀ (f p v c : Nat), v < 10 ^ c → (kNumL b n f p v).2 < 10 ^ (c + f) := by
  intro f
  induction f with
  | zero => intro p v c h; exact h
  | succ f ih =>
    intro p v c h
    unfold kNumL
    by_cases z : kDg (kAt b n p) = true
    · rw [if_pos z]
      have hz := kDg_t.mp z
      have h1 := ih (p + 1) (v * 10 + (kAt b n p - 48)) (c + 1) (by rw [Nat.pow_succ]; omega)
      rw [show c + (f + 1) = c + 1 + f by omega]
      exact h1
    · rw [if_neg z]
      exact Nat.lt_of_lt_of_le h (Nat.pow_le_pow_right (by decide) (by omega))
theorem kNum_w {M : Nat} {b : Nat → Nat} {n p q : Nat} {l : List Int32} (h : kNum b n p = (true, q, l)) : kHn M 1 l := by
  unfold kNum at h
  split at h
  · exact absurd (Prod.mk.inj h).1 (by decide)
  · rw [← (Prod.mk.inj (Prod.mk.inj h).2).2]
    have h1 := kNumL_v (b := b) (n := n) 4 p 0 0 (by decide)
    exact ⟨1, by omega, kWn.num h1⟩
theorem kAtomF_w {b : Nat → Nat} {n : Nat} {g : Nat → Int32} {m H : Nat} {op : Bool} {sm : Nat → kRes} (hs : kRn m H sm) (hm : m ≤ 8) (hH : 1 ≤ H) : kRn m H (kAtomF b n g m op sm) := by
  intro p q l h
  unfold kAtomF at h
  split at h
  · cases op with
    | false => exact absurd (Prod.mk.inj (show ((false, kSp b n p, []) : kRes) = (true, q, l) from h)).1 (by decide)
    | true =>
      obtain ⟨p2, x, h1, h2⟩ := kTh_i (show kTh (sm (kSp b n p + 1)) (fun q l => kTk b n 93 q l) = (true, q, l) from h)
      rw [kTk_i h2]
      exact hs _ _ _ h1
  · split at h
    · exact kHn_le (kNum_w h) hH
    · split at h
      · next hx =>
        rw [← (Prod.mk.inj (Prod.mk.inj h).2).2]
        exact ⟨1, hH, kWn.ltr hx (by omega)⟩
      · exact absurd (Prod.mk.inj h).1 (by decide)
theorem kFail_n (M H : Nat) : kRn M H (fun p => (false, p, [])) := fun _ _ _ h => absurd (Prod.mk.inj h).1 (by decide)
theorem kFail_b (M H : Nat) : kRb M H (fun p => (false, p, [])) := fun _ _ _ h => absurd (Prod.mk.inj h).1 (by decide)
theorem kSumF_w {M : Nat} {b : Nat → Nat} {n H : Nat} {a : Nat → kRes} (ha : kRn M H a) : kRn M (H + 2) (kSumF b n a) := by
  have h1 : kRn M (H + 1) (kMany b n 42 47 a a) := kMany_n ha (kRn_le ha (by omega)) (by omega) (by omega)
  exact kMany_n h1 (kRn_le h1 (by omega)) (by omega) (by omega)
theorem kAtomD_w {b : Nat → Nat} {n : Nat} {g : Nat → Int32} {m : Nat} (hm : m ≤ 8) : ∀ e, kRn m (2 * e + 1) (kAtomD b n g m e) := by
  intro e
  induction e with
  | zero => exact kAtomF_w (kFail_n m 1) hm (by omega)
  | succ e ih => exact kAtomF_w (kSumF_w ih) hm (by omega)
theorem kSumD_w {b : Nat → Nat} {n : Nat} {g : Nat → Int32} {m : Nat} (hm : m ≤ 8) (e : Nat) : kRn m (2 * e + 3) (kSumD b n g m e) := kSumF_w (kAtomD_w hm e)
theorem kCmp_w {b : Nat → Nat} {n : Nat} {g : Nat → Int32} {m : Nat} (hm : m ≤ 8) {e p q : Nat} {x l : List Int32} (hx : kHn m (2 * e + 3) x) (h : kCmp b n g m e p x = (true, q, l)) : kHb m (2 * e + 4) l := by
  unfold kCmp at h
  split at h
  · next hc =>
    obtain ⟨p2, y, h1, h2⟩ := kTh_i h
    obtain ⟨a, a1, a2⟩ := hx
    obtain ⟨c, c1, c2⟩ := kSumD_w hm e _ _ _ h1
    rw [← (Prod.mk.inj (Prod.mk.inj h2).2).2]
    exact ⟨max a (c + 1), by omega, kWb.cmp a2 c2 (by omega)⟩
  · exact absurd (Prod.mk.inj h).1 (by decide)
theorem kUnitF_w {b : Nat → Nat} {n : Nat} {g : Nat → Int32} {m : Nat} (hm : m ≤ 8) {e H : Nat} {op : Bool} {u c : Nat → kRes} (hu : kRb m H u) (hc : kRb m H c) (hH : 2 * e + 4 ≤ H) : kRb m H (kUnitF b n g m e op u c) := by
  intro p q l h
  unfold kUnitF at h
  split at h
  · cases op with
    | false => exact absurd (Prod.mk.inj (show ((false, kSp b n p, []) : kRes) = (true, q, l) from h)).1 (by decide)
    | true =>
      obtain ⟨p2, x, h1, h2⟩ := kTh_i (show kTh (u (kSp b n p + 1)) (fun q l => (true, q, l ++ [20033])) = (true, q, l) from h)
      obtain ⟨y, y1, y2⟩ := hu _ _ _ h1
      rw [← (Prod.mk.inj (Prod.mk.inj h2).2).2]
      exact ⟨y, y1, kWb.neg y2⟩
  · split at h
    · cases op with
      | false => exact absurd (Prod.mk.inj (show ((false, kSp b n p, []) : kRes) = (true, q, l) from h)).1 (by decide)
      | true =>
        obtain ⟨p2, x, h1, h2⟩ := kTh_i (show kTh (c (kSp b n p + 1)) (fun q l => kTk b n 41 q l) = (true, q, l) from h)
        rw [kTk_i h2]
        exact hc _ _ _ h1
    · obtain ⟨p2, x, h1, h2⟩ := kTh_i h
      exact kHb_le (kCmp_w hm (kSumD_w hm e _ _ _ h1) h2) hH
theorem kTruF_w {M : Nat} {b : Nat → Nat} {n H : Nat} {u z : Nat → kRes} (hu : kRb M H u) (hz : kRb M (H + 1) z) : kRb M (H + 1) (kTruF b n u z) := kMany_b hu hz (by omega)
theorem kConF_w {M : Nat} {b : Nat → Nat} {n H : Nat} {t z : Nat → kRes} (ht : kRb M H t) (hz : kRb M (H + 1) z) : kRb M (H + 1) (kConF b n t z) := kMany_b ht hz (by omega)
theorem kUnitD_w {b : Nat → Nat} {n : Nat} {g : Nat → Int32} {m : Nat} (hm : m ≤ 8) : ∀ e, kRb m (2 * e + 4) (kUnitD b n g m e) := by
  intro e
  induction e with
  | zero => exact kUnitF_w hm (kFail_b m 4) (kFail_b m 4) (by omega)
  | succ e ih =>
    have ht : kRb m (2 * e + 5) (kTruF b n (kUnitD b n g m e) (kUnitD b n g m e)) := kTruF_w ih (kRb_le ih (by omega))
    have hc : kRb m (2 * e + 6) (kConF b n (kTruF b n (kUnitD b n g m e) (kUnitD b n g m e)) (kTruF b n (kUnitD b n g m e) (kUnitD b n g m e))) := kConF_w ht (kRb_le ht (by omega))
    exact kUnitF_w hm (kRb_le ih (by omega)) hc (by omega)
theorem kTruD_w {b : Nat → Nat} {n : Nat} {g : Nat → Int32} {m : Nat} (hm : m ≤ 8) (e : Nat) : kRb m (2 * e + 5) (kTruD b n g m e) := kTruF_w (kUnitD_w hm e) (kRb_le (kUnitD_w hm e) (by omega))
theorem kConD_w {b : Nat → Nat} {n : Nat} {g : Nat → Int32} {m : Nat} (hm : m ≤ 8) (e : Nat) : kRb m (2 * e + 6) (kConD b n g m e) := kConF_w (kTruD_w hm e) (kRb_le (kTruD_w hm e) (by omega))
/-- within a million -/
def kBd (x : Int32) : Prop := -1000000 ≤ x.toInt ∧ x.toInt ≤ 1000000
theorem kBd0 : kBd 0 := by unfold kBd; decide
theorem kStv_n {lt : Nat → Int32} {v : Nat} (h : v < 10000) : kStv lt (nI v) = nI v := if_pos (pk_sneg (a := v) (b := 10000) (by omega) h)
theorem kStv_l {lt : Nat → Int32} {k : Nat} (h : k < 8) : kStv lt (nI (10000 + k)) = lt k := by
  have e : nI (10000 + k) - 10000 = nI k := (pk_sub (a := 10000 + k) (b := 10000) (by omega)).trans (congrArg nI (by omega))
  unfold kStv
  rw [e, if_neg (nI_pos (n := k) (by omega)), if_pos (show nI k < 8 from nI_lt (a := k) (b := 8) h (by decide)), nI_clamp (by omega)]
theorem kVal_nn {lt : Nat → Int32} {v : Nat} (h : v < 10000) : kVal lt [nI v] = nI v := (kVal_num (by omega)).trans (kStv_n h)
theorem kVal_ll {lt : Nat → Int32} {k : Nat} (h : k < 8) : kVal lt [nI (10000 + k)] = lt k := (kVal_num (by omega)).trans (kStv_l h)
/-- behind a sum that is read: what is laid upon it -/
def kWz (M h : Nat) (l : List Int32) : Prop := ∀ P : Nat → List Int32 → Prop, (∀ (b s : Nat) (m : List Int32), kWn M b m → (s = 61 ∨ s = 60 ∨ s = 62) → P (b + 1) ([] ++ m ++ [nI (20000 + s)])) → (∀ (a b s : Nat) (l m : List Int32), P a l → kWb M b m → (s = 38 ∨ s = 124) → P (max a (b + 1)) (l ++ m ++ [nI (20000 + s)])) → P h l
theorem kWz.cmp {M b s : Nat} {m : List Int32} (h2 : kWn M b m) (hs : (s = 61 ∨ s = 60 ∨ s = 62)) : kWz M (b + 1) ([] ++ m ++ [nI (20000 + s)]) := fun _ c1 _ => c1 b s m h2 hs
theorem kWz.bin {M a b s : Nat} {l m : List Int32} (h1 : kWz M a l) (h2 : kWb M b m) (hs : (s = 38 ∨ s = 124)) : kWz M (max a (b + 1)) (l ++ m ++ [nI (20000 + s)]) := fun P c1 c2 => c2 a b s l m (h1 P c1 c2) h2 hs
theorem kWz_ind {M : Nat} {P : Nat → List Int32 → Prop} (c1 : ∀ (b s : Nat) (m : List Int32), kWn M b m → (s = 61 ∨ s = 60 ∨ s = 62) → P (b + 1) ([] ++ m ++ [nI (20000 + s)])) (c2 : ∀ (a b s : Nat) (l m : List Int32), kWz M a l → kWb M b m → (s = 38 ∨ s = 124) → P a l → P (max a (b + 1)) (l ++ m ++ [nI (20000 + s)])) {h : Nat} {l : List Int32} (w : kWz M h l) : P h l :=
  (w (fun h l => kWz M h l ∧ P h l) (fun b s m x hs => ⟨kWz.cmp x hs, c1 b s m x hs⟩) (fun a b s l m x y hs => ⟨kWz.bin x.1 y hs, c2 a b s l m x.1 y hs x.2⟩)).2
/-- the same under a bound of the height -/
def kHz (M H : Nat) (l : List Int32) : Prop := ∃ h : Nat, h ≤ H ∧ kWz M h l
theorem kHz_le {M H K : Nat} {l : List Int32} (h : kHz M H l) (hk : H ≤ K) : kHz M K l := by obtain ⟨x, h1, h2⟩ := h; exact ⟨x, by omega, h2⟩
theorem kHz_bin {M A H s : Nat} {l m : List Int32} (h1 : kHz M H l) (h2 : kHb M A m) (hA : A + 1 ≤ H) (hs : s = 38 ∨ s = 124) : kHz M H (l ++ m ++ [nI (20000 + s)]) := by
  obtain ⟨x, x1, x2⟩ := h1
  obtain ⟨y, y1, y2⟩ := h2
  exact ⟨max x (y + 1), by omega, kWz.bin x2 y2 hs⟩
theorem kUnitZ_w {b : Nat → Nat} {n : Nat} {g : Nat → Int32} {m : Nat} (hm : m ≤ 8) {e p q : Nat} {l : List Int32} (h : kUnitZ b n g m e p = (true, q, l)) : kHz m (2 * e + 4) l := by
  unfold kUnitZ kCmp at h
  split at h
  · next hc =>
    obtain ⟨p2, y, h1, h2⟩ := kTh_i h
    obtain ⟨c, c1, c2⟩ := kSumD_w hm e _ _ _ h1
    rw [← (Prod.mk.inj (Prod.mk.inj h2).2).2]
    exact ⟨c + 1, by omega, kWz.cmp c2 (by omega)⟩
  · exact absurd (Prod.mk.inj h).1 (by decide)
theorem kLoop_zz {M : Nat} {b : Nat → Nat} {n c A H : Nat} {a : Nat → kRes} (ha : kRb M A a) (hA : A + 1 ≤ H) (hc : c = 38 ∨ c = 124) : ∀ (f p q : Nat) (l r : List Int32), kHz M H l → kLoop b n c c a f p l = (true, q, r) → kHz M H r := by
  intro f
  induction f with
  | zero => intro p q l r hl h; rw [← (Prod.mk.inj (Prod.mk.inj (show ((true, p, l) : kRes) = (true, q, r) from h)).2).2]; exact hl
  | succ f ih =>
    intro p q l r hl h
    by_cases z : kLk b n p = c ∨ kLk b n p = c
    · have h2 : kTh (a (kSp b n p + 1)) (fun q m => kLoop b n c c a f q (l ++ m ++ [nI (20000 + kLk b n p)])) = (true, q, r) := (if_pos z).symm.trans h
      obtain ⟨p2, x, h3, h4⟩ := kTh_i h2
      exact ih p2 q _ r (kHz_bin hl (ha _ _ _ h3) hA (by omega)) h4
    · rw [kLoop_e z] at h
      rw [← (Prod.mk.inj (Prod.mk.inj h).2).2]; exact hl
theorem kTruZ_w {b : Nat → Nat} {n : Nat} {g : Nat → Int32} {m : Nat} (hm : m ≤ 8) {e p q : Nat} {l : List Int32} (h : kTruZ b n g m e p = (true, q, l)) : kHz m (2 * e + 5) l := by
  obtain ⟨p2, x, h1, h2⟩ := kTh_i h
  exact kLoop_zz (kUnitD_w hm e) (Nat.le_refl _) (by omega) 120 p2 q x l (kHz_le (kUnitZ_w hm h1) (by omega)) h2
theorem kConZ_w {b : Nat → Nat} {n : Nat} {g : Nat → Int32} {m : Nat} (hm : m ≤ 8) {e p q : Nat} {l : List Int32} (h : kConZ b n g m e p = (true, q, l)) : kHz m (2 * e + 6) l := by
  obtain ⟨p2, x, h1, h2⟩ := kTh_i h
  exact kLoop_zz (kTruD_w hm e) (Nat.le_refl _) (by omega) 120 p2 q x l (kHz_le (kTruZ_w hm h1) (by omega)) h2
/-- the letters as the reference keeps them -/
def kLt (gE g7 : Nat → Int32) : Nat → Int32 := fun k => gE (Int32.toNatClampNeg (g7 k))
