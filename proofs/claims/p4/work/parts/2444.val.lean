/-- a number within a million -/
def kClm (x : Int) : Int32 := Int32.ofInt (max (-1000000) (min 1000000 x))
/-- two numbers joined by a sign -/
def kJi (s l r : Int32) : Int :=
  if s = 43 then l.toInt + r.toInt else if s = 45 then l.toInt - r.toInt else if s = 42 then l.toInt * r.toInt
  else if s = 47 then (if r = 0 then 0 else (l / r).toInt) else if s = 61 then (if l = r then 1 else 0) else if s = 60 then (if l < r then 1 else 0)
  else if s = 62 then (if r < l then 1 else 0) else if s = 38 then (l &&& r).toInt else (l ||| r).toInt
def kJn (s l r : Int32) : Int32 := kClm (kJi s l r)
/-- what a step lays on the stack -/
def kStv (lt : Nat → Int32) (x : Int32) : Int32 := if x - 10000 < 0 then x else if x - 10000 < 8 then lt (Int32.toNatClampNeg (x - 10000)) else x
def kEv1 (lt : Nat → Int32) (x : Int32) (st : List Int32) : List Int32 :=
  if x < 20000 then kStv lt x :: st
  else if x = 20033 then (match st with
    | a :: r => (if a = 0 then 1 else 0) :: r
    | [] => [])
  else (match st with
    | b :: a :: r => kJn (x - 20000) a b :: r
    | r => r)
def kEv (lt : Nat → Int32) : List Int32 → List Int32 → List Int32
  | [], st => st
  | x :: l, st => kEv lt l (kEv1 lt x st)
theorem kEv_app (lt : Nat → Int32) (m : List Int32) : ∀ (l st : List Int32), kEv lt (l ++ m) st = kEv lt m (kEv lt l st) := by
  intro l
  induction l with
  | nil => intro st; rfl
  | cons x l ih => intro st; exact ih (kEv1 lt x st)
theorem kLt20 {v : Nat} (h : v < 20000) : nI v < 20000 := nI_lt (a := v) (b := 20000) h (by decide)
/-- a sum, as steps: how high it lays the stack -/
def kWn (M h : Nat) (l : List Int32) : Prop := ∀ P : Nat → List Int32 → Prop, (∀ v : Nat, v < 10000 → P 1 [nI v]) → (∀ k : Nat, k < M → k < 8 → P 1 [nI (10000 + k)]) → (∀ (a b s : Nat) (l m : List Int32), P a l → P b m → (s = 43 ∨ s = 45 ∨ s = 42 ∨ s = 47) → P (max a (b + 1)) (l ++ m ++ [nI (20000 + s)])) → P h l
theorem kWn.num {M v : Nat} (h : v < 10000) : kWn M 1 [nI v] := fun _ c1 _ _ => c1 v h
theorem kWn.ltr {M k : Nat} (h : k < M) (h8 : k < 8) : kWn M 1 [nI (10000 + k)] := fun _ _ c2 _ => c2 k h h8
theorem kWn.bin {M a b s : Nat} {l m : List Int32} (h1 : kWn M a l) (h2 : kWn M b m) (hs : (s = 43 ∨ s = 45 ∨ s = 42 ∨ s = 47)) : kWn M (max a (b + 1)) (l ++ m ++ [nI (20000 + s)]) := fun P c1 c2 c3 => c3 a b s l m (h1 P c1 c2 c3) (h2 P c1 c2 c3) hs
theorem kWn_ind {M : Nat} {P : Nat → List Int32 → Prop} (c1 : ∀ v : Nat, v < 10000 → P 1 [nI v]) (c2 : ∀ k : Nat, k < M → k < 8 → P 1 [nI (10000 + k)]) (c3 : ∀ (a b s : Nat) (l m : List Int32), kWn M a l → kWn M b m → (s = 43 ∨ s = 45 ∨ s = 42 ∨ s = 47) → P a l → P b m → P (max a (b + 1)) (l ++ m ++ [nI (20000 + s)])) {h : Nat} {l : List Int32} (w : kWn M h l) : P h l :=
  (w (fun h l => kWn M h l ∧ P h l) (fun v hv => ⟨kWn.num hv, c1 v hv⟩) (fun k hk h8 => ⟨kWn.ltr hk h8, c2 k hk h8⟩) (fun a b s l m x y hs => ⟨kWn.bin x.1 y.1 hs, c3 a b s l m x.1 y.1 hs x.2 y.2⟩)).2
/-- a condition, as steps -/
def kWb (M h : Nat) (l : List Int32) : Prop := ∀ P : Nat → List Int32 → Prop, (∀ (a b s : Nat) (l m : List Int32), kWn M a l → kWn M b m → (s = 61 ∨ s = 60 ∨ s = 62) → P (max a (b + 1)) (l ++ m ++ [nI (20000 + s)])) → (∀ (a : Nat) (l : List Int32), P a l → P a (l ++ [20033])) → (∀ (a b s : Nat) (l m : List Int32), P a l → P b m → (s = 38 ∨ s = 124) → P (max a (b + 1)) (l ++ m ++ [nI (20000 + s)])) → P h l
theorem kWb.cmp {M a b s : Nat} {l m : List Int32} (h1 : kWn M a l) (h2 : kWn M b m) (hs : (s = 61 ∨ s = 60 ∨ s = 62)) : kWb M (max a (b + 1)) (l ++ m ++ [nI (20000 + s)]) := fun _ c1 _ _ => c1 a b s l m h1 h2 hs
theorem kWb.neg {M a : Nat} {l : List Int32} (h1 : kWb M a l) : kWb M a (l ++ [20033]) := fun P c1 c2 c3 => c2 a l (h1 P c1 c2 c3)
theorem kWb.bin {M a b s : Nat} {l m : List Int32} (h1 : kWb M a l) (h2 : kWb M b m) (hs : (s = 38 ∨ s = 124)) : kWb M (max a (b + 1)) (l ++ m ++ [nI (20000 + s)]) := fun P c1 c2 c3 => c3 a b s l m (h1 P c1 c2 c3) (h2 P c1 c2 c3) hs
theorem kWb_ind {M : Nat} {P : Nat → List Int32 → Prop} (c1 : ∀ (a b s : Nat) (l m : List Int32), kWn M a l → kWn M b m → (s = 61 ∨ s = 60 ∨ s = 62) → P (max a (b + 1)) (l ++ m ++ [nI (20000 + s)])) (c2 : ∀ (a : Nat) (l : List Int32), kWb M a l → P a l → P a (l ++ [20033])) (c3 : ∀ (a b s : Nat) (l m : List Int32), kWb M a l → kWb M b m → (s = 38 ∨ s = 124) → P a l → P b m → P (max a (b + 1)) (l ++ m ++ [nI (20000 + s)])) {h : Nat} {l : List Int32} (w : kWb M h l) : P h l :=
  (w (fun h l => kWb M h l ∧ P h l) (fun a b s l m x y hs => ⟨kWb.cmp x y hs, c1 a b s l m x y hs⟩) (fun a l x => ⟨kWb.neg x.1, c2 a l x.1 x.2⟩) (fun a b s l m x y hs => ⟨kWb.bin x.1 y.1 hs, c3 a b s l m x.1 y.1 hs x.2 y.2⟩)).2
def kVal (lt : Nat → Int32) (l : List Int32) : Int32 := (kEv lt l []).headD 0
theorem kSgnF : ∀ s : Fin 128, ¬ nI (20000 + s.val) < 20000 ∧ nI (20000 + s.val) - 20000 = nI s.val ∧ (nI (20000 + s.val) = 20033 → s.val = 33) := by decide +kernel
theorem kEv1_s {lt : Nat → Int32} {s : Nat} {a b : Int32} {st : List Int32} (hs : s < 128) (h33 : ¬ s = 33) : kEv1 lt (nI (20000 + s)) (b :: a :: st) = kJn (nI s) a b :: st := by
  have h := kSgnF ⟨s, hs⟩
  unfold kEv1
  rw [if_neg h.1, if_neg (fun z => h33 (h.2.2 z)), h.2.1]
theorem kEv1_n {lt : Nat → Int32} {a : Int32} {st : List Int32} : kEv1 lt 20033 (a :: st) = (if a = 0 then 1 else 0) :: st := by
  unfold kEv1
  rw [if_neg (by decide), if_pos rfl]
theorem kEv_of {lt : Nat → Int32} {l : List Int32} (h : ∃ v : Int32, ∀ st : List Int32, kEv lt l st = v :: st) : ∀ st : List Int32, kEv lt l st = kVal lt l :: st := by
  obtain ⟨v, hv⟩ := h
  intro st
  unfold kVal
  rw [hv st, hv []]
  rfl
theorem kEv_join {lt : Nat → Int32} {l m : List Int32} {s : Nat} (h1 : ∀ st : List Int32, kEv lt l st = kVal lt l :: st) (h2 : ∀ st : List Int32, kEv lt m st = kVal lt m :: st) (hs : s < 128) (h33 : ¬ s = 33) : ∀ st : List Int32, kEv lt (l ++ m ++ [nI (20000 + s)]) st = kJn (nI s) (kVal lt l) (kVal lt m) :: st := by
  intro st
  rw [kEv_app, kEv_app, h1, h2]
  show kEv lt [] (kEv1 lt (nI (20000 + s)) (kVal lt m :: kVal lt l :: st)) = _
  rw [kEv1_s hs h33]
  rfl
theorem kWn_ev {lt : Nat → Int32} {M h : Nat} {l : List Int32} (w : kWn M h l) : ∀ st : List Int32, kEv lt l st = kVal lt l :: st := by
  refine kWn_ind (P := fun _ l => ∀ st : List Int32, kEv lt l st = kVal lt l :: st) ?_ ?_ ?_ w
  · intro v hv
    refine kEv_of ⟨kStv lt (nI v), fun st => ?_⟩
    show kEv lt [] (kEv1 lt (nI v) st) = _
    unfold kEv1
    rw [if_pos (kLt20 (by omega))]
    rfl
  · intro k hk h8
    refine kEv_of ⟨kStv lt (nI (10000 + k)), fun st => ?_⟩
    show kEv lt [] (kEv1 lt (nI (10000 + k)) st) = _
    unfold kEv1
    rw [if_pos (kLt20 (by omega))]
    rfl
  · intro a b s l m h1 h2 hs i1 i2
    exact kEv_of ⟨_, kEv_join i1 i2 (by omega) (by omega)⟩
theorem kWb_ev {lt : Nat → Int32} {M h : Nat} {l : List Int32} (w : kWb M h l) : ∀ st : List Int32, kEv lt l st = kVal lt l :: st := by
  refine kWb_ind (P := fun _ l => ∀ st : List Int32, kEv lt l st = kVal lt l :: st) ?_ ?_ ?_ w
  · intro a b s l m h1 h2 hs
    exact kEv_of ⟨_, kEv_join (kWn_ev h1) (kWn_ev h2) (by omega) (by omega)⟩
  · intro a l h1 i1
    refine kEv_of ⟨(if kVal lt l = 0 then 1 else 0), fun st => ?_⟩
    rw [kEv_app, i1]
    show kEv lt [] (kEv1 lt 20033 (kVal lt l :: st)) = _
    rw [kEv1_n]
    rfl
  · intro a b s l m h1 h2 hs i1 i2
    exact kEv_of ⟨_, kEv_join i1 i2 (by omega) (by omega)⟩
theorem kVal_num {lt : Nat → Int32} {v : Nat} (h : v < 20000) : kVal lt [nI v] = kStv lt (nI v) := by
  show (kEv lt [] (kEv1 lt (nI v) [])).headD 0 = _
  unfold kEv1
  rw [if_pos (kLt20 h)]
  rfl
theorem kVal_n {lt : Nat → Int32} {M a b s : Nat} {l m : List Int32} (h1 : kWn M a l) (h2 : kWn M b m) (hs : s < 128) (h33 : ¬ s = 33) : kVal lt (l ++ m ++ [nI (20000 + s)]) = kJn (nI s) (kVal lt l) (kVal lt m) := by
  show (kEv lt _ []).headD 0 = _
  rw [kEv_join (kWn_ev h1) (kWn_ev h2) hs h33]
  rfl
theorem kVal_b {lt : Nat → Int32} {M a b s : Nat} {l m : List Int32} (h1 : kWb M a l) (h2 : kWb M b m) (hs : s < 128) (h33 : ¬ s = 33) : kVal lt (l ++ m ++ [nI (20000 + s)]) = kJn (nI s) (kVal lt l) (kVal lt m) := by
  show (kEv lt _ []).headD 0 = _
  rw [kEv_join (kWb_ev h1) (kWb_ev h2) hs h33]
  rfl
theorem kVal_not {lt : Nat → Int32} {M a : Nat} {l : List Int32} (h1 : kWb M a l) : kVal lt (l ++ [20033]) = if kVal lt l = 0 then 1 else 0 := by
  show (kEv lt _ []).headD 0 = _
  rw [kEv_app, kWb_ev h1]
  show (kEv lt [] (kEv1 lt 20033 _)).headD 0 = _
  rw [kEv1_n]
  rfl
/-- the stack stays within its room -/
def kFit : List Int32 → Nat → Prop
  | [], _ => True
  | x :: l, n => if x < 20000 then (n < 32 ∧ kFit l (n + 1)) else if x = 20033 then (1 ≤ n ∧ kFit l n) else (2 ≤ n ∧ kFit l (n - 1))
theorem kFit_s {s n : Nat} {r : List Int32} (hs : s < 128) (h33 : ¬ s = 33) (hn : 2 ≤ n) (h : kFit r (n - 1)) : kFit (nI (20000 + s) :: r) n := by
  have z := kSgnF ⟨s, hs⟩
  unfold kFit
  rw [if_neg z.1, if_neg (fun y => h33 (z.2.2 y))]
  exact ⟨hn, h⟩
theorem kWn_fit {M h : Nat} {l : List Int32} (w : kWn M h l) : ∀ (n : Nat) (r : List Int32), n + h ≤ 32 → kFit r (n + 1) → kFit (l ++ r) n := by
  refine kWn_ind (P := fun h l => ∀ (n : Nat) (r : List Int32), n + h ≤ 32 → kFit r (n + 1) → kFit (l ++ r) n) ?_ ?_ ?_ w
  · intro v hv
    intro n r hn hr
    show kFit (nI v :: r) n
    unfold kFit
    rw [if_pos (kLt20 (by omega))]
    exact ⟨by omega, hr⟩
  · intro k hk h8
    intro n r hn hr
    show kFit (nI (10000 + k) :: r) n
    unfold kFit
    rw [if_pos (kLt20 (by omega))]
    exact ⟨by omega, hr⟩
  · intro a b s l m h1 h2 hs i1 i2
    intro n r hn hr
    rw [List.append_assoc, List.append_assoc]
    refine i1 n _ (by omega) (i2 (n + 1) _ (by omega) ?_)
    exact kFit_s (by omega) (by omega) (by omega) hr
theorem kWb_fit {M h : Nat} {l : List Int32} (w : kWb M h l) : ∀ (n : Nat) (r : List Int32), n + h ≤ 32 → kFit r (n + 1) → kFit (l ++ r) n := by
  refine kWb_ind (P := fun h l => ∀ (n : Nat) (r : List Int32), n + h ≤ 32 → kFit r (n + 1) → kFit (l ++ r) n) ?_ ?_ ?_ w
  · intro a b s l m h1 h2 hs
    intro n r hn hr
    rw [List.append_assoc, List.append_assoc]
    refine kWn_fit h1 n _ (by omega) (kWn_fit h2 (n + 1) _ (by omega) ?_)
    exact kFit_s (by omega) (by omega) (by omega) hr
  · intro a l h1 i1
    intro n r hn hr
    rw [List.append_assoc]
    refine i1 n _ hn ?_
    show kFit (20033 :: r) (n + 1)
    unfold kFit
    rw [if_neg (by decide), if_pos rfl]
    exact ⟨by omega, hr⟩
  · intro a b s l m h1 h2 hs i1 i2
    intro n r hn hr
    rw [List.append_assoc, List.append_assoc]
    refine i1 n _ (by omega) (i2 (n + 1) _ (by omega) ?_)
    exact kFit_s (by omega) (by omega) (by omega) hr
theorem kTh_i {r : kRes} {k : Nat → List Int32 → kRes} {q : Nat} {l : List Int32} (h : kTh r k = (true, q, l)) : ∃ (p : Nat) (x : List Int32), r = (true, p, x) ∧ k p x = (true, q, l) := by
  obtain ⟨o, p, x⟩ := r
  cases o with
  | true => exact ⟨p, x, rfl, h⟩
  | false => exact absurd (Prod.mk.inj (show ((false, p, []) : kRes) = (true, q, l) from h)).1 (by decide)
theorem kTk_i {b : Nat → Nat} {n c p q : Nat} {x l : List Int32} (h : kTk b n c p x = (true, q, l)) : l = x := by
  unfold kTk at h
  split at h
  · exact ((Prod.mk.inj (Prod.mk.inj h).2).2).symm
  · exact absurd (Prod.mk.inj h).1 (by decide)
/-- sums no higher than so much -/
def kHn (M H : Nat) (l : List Int32) : Prop := ∃ h : Nat, h ≤ H ∧ kWn M h l
def kHb (M H : Nat) (l : List Int32) : Prop := ∃ h : Nat, h ≤ H ∧ kWb M h l
def kRn (M H : Nat) (a : Nat → kRes) : Prop := ∀ (p q : Nat) (l : List Int32), a p = (true, q, l) → kHn M H l
def kRb (M H : Nat) (a : Nat → kRes) : Prop := ∀ (p q : Nat) (l : List Int32), a p = (true, q, l) → kHb M H l
theorem kHn_le {M : Nat} {H K : Nat} {l : List Int32} (h : kHn M H l) (hk : H ≤ K) : kHn M K l := by obtain ⟨x, h1, h2⟩ := h; exact ⟨x, by omega, h2⟩
theorem kHb_le {M : Nat} {H K : Nat} {l : List Int32} (h : kHb M H l) (hk : H ≤ K) : kHb M K l := by obtain ⟨x, h1, h2⟩ := h; exact ⟨x, by omega, h2⟩
theorem kHn_bin {M : Nat} {A H s : Nat} {l m : List Int32} (h1 : kHn M H l) (h2 : kHn M A m) (hA : A + 1 ≤ H) (hs : s = 43 ∨ s = 45 ∨ s = 42 ∨ s = 47) : kHn M H (l ++ m ++ [nI (20000 + s)]) := by
  obtain ⟨x, x1, x2⟩ := h1
  obtain ⟨y, y1, y2⟩ := h2
  exact ⟨max x (y + 1), by omega, kWn.bin x2 y2 hs⟩
theorem kHb_bin {M : Nat} {A H s : Nat} {l m : List Int32} (h1 : kHb M H l) (h2 : kHb M A m) (hA : A + 1 ≤ H) (hs : s = 38 ∨ s = 124) : kHb M H (l ++ m ++ [nI (20000 + s)]) := by
  obtain ⟨x, x1, x2⟩ := h1
  obtain ⟨y, y1, y2⟩ := h2
  exact ⟨max x (y + 1), by omega, kWb.bin x2 y2 hs⟩
theorem kLoop_n {M : Nat} {b : Nat → Nat} {n c1 c2 A H : Nat} {a : Nat → kRes} (ha : kRn M A a) (hA : A + 1 ≤ H) (hc1 : c1 = 43 ∨ c1 = 45 ∨ c1 = 42 ∨ c1 = 47) (hc2 : c2 = 43 ∨ c2 = 45 ∨ c2 = 42 ∨ c2 = 47) : ∀ (f p q : Nat) (l r : List Int32), kHn M H l → kLoop b n c1 c2 a f p l = (true, q, r) → kHn M H r := by
  intro f
  induction f with
  | zero => intro p q l r hl h; rw [← (Prod.mk.inj (Prod.mk.inj (show ((true, p, l) : kRes) = (true, q, r) from h)).2).2]; exact hl
  | succ f ih =>
    intro p q l r hl h
    by_cases z : kLk b n p = c1 ∨ kLk b n p = c2
    · have h2 : kTh (a (kSp b n p + 1)) (fun q m => kLoop b n c1 c2 a f q (l ++ m ++ [nI (20000 + kLk b n p)])) = (true, q, r) := (if_pos z).symm.trans h
      obtain ⟨p2, x, h3, h4⟩ := kTh_i h2
      exact ih p2 q _ r (kHn_bin hl (ha _ _ _ h3) hA (by omega)) h4
    · rw [kLoop_e z] at h
      rw [← (Prod.mk.inj (Prod.mk.inj h).2).2]; exact hl
theorem kLoop_b {M : Nat} {b : Nat → Nat} {n c A H : Nat} {a : Nat → kRes} (ha : kRb M A a) (hA : A + 1 ≤ H) (hc : c = 38 ∨ c = 124) : ∀ (f p q : Nat) (l r : List Int32), kHb M H l → kLoop b n c c a f p l = (true, q, r) → kHb M H r := by
  intro f
  induction f with
  | zero => intro p q l r hl h; rw [← (Prod.mk.inj (Prod.mk.inj (show ((true, p, l) : kRes) = (true, q, r) from h)).2).2]; exact hl
  | succ f ih =>
    intro p q l r hl h
    by_cases z : kLk b n p = c ∨ kLk b n p = c
    · have h2 : kTh (a (kSp b n p + 1)) (fun q m => kLoop b n c c a f q (l ++ m ++ [nI (20000 + kLk b n p)])) = (true, q, r) := (if_pos z).symm.trans h
      obtain ⟨p2, x, h3, h4⟩ := kTh_i h2
      exact ih p2 q _ r (kHb_bin hl (ha _ _ _ h3) hA (by omega)) h4
    · rw [kLoop_e z] at h
      rw [← (Prod.mk.inj (Prod.mk.inj h).2).2]; exact hl
theorem kMany_n {M : Nat} {b : Nat → Nat} {n c1 c2 A : Nat} {a z : Nat → kRes} (ha : kRn M A a) (hz : kRn M (A + 1) z) (hc1 : c1 = 43 ∨ c1 = 45 ∨ c1 = 42 ∨ c1 = 47) (hc2 : c2 = 43 ∨ c2 = 45 ∨ c2 = 42 ∨ c2 = 47) : kRn M (A + 1) (kMany b n c1 c2 a z) := by
  intro p q l h
  obtain ⟨p2, x, h1, h2⟩ := kTh_i h
  exact kLoop_n ha (Nat.le_refl _) hc1 hc2 120 p2 q x l (hz _ _ _ h1) h2
theorem kMany_b {M : Nat} {b : Nat → Nat} {n c A : Nat} {a z : Nat → kRes} (ha : kRb M A a) (hz : kRb M (A + 1) z) (hc : c = 38 ∨ c = 124) : kRb M (A + 1) (kMany b n c c a z) := by
  intro p q l h
  obtain ⟨p2, x, h1, h2⟩ := kTh_i h
  exact kLoop_b ha (Nat.le_refl _) hc 120 p2 q x l (hz _ _ _ h1) h2
theorem kRn_le {M : Nat} {H K : Nat} {a : Nat → kRes} (h : kRn M H a) (hk : H ≤ K) : kRn M K a := fun p q l e => kHn_le (h p q l e) hk
theorem kRb_le {M : Nat} {H K : Nat} {a : Nat → kRes} (h : kRb M H a) (hk : H ≤ K) : kRb M K a := fun p q l e => kHb_le (h p q l e) hk
theorem kNumL_v {b : Nat → Nat} {n : Nat} : ∀ (f p v c : Nat), v < 10 ^ c → (kNumL b n f p v).2 < 10 ^ (c + f) := by
  intro f
  induction f with
  | zero => intro p v c h; exact h
  | succ f ih =>
    intro p v c h
    unfold kNumL
    by_cases z : kDg (kAt b n p) = true
    · rw [if_pos z]
      have hz := kDg_t.mp z
      have h1 := ih (p + 1) (v * 10 + (kAt b n p - 48)) (c + 1) (by rw [Nat.pow_succ]; omega)
      rw [show c + (f + 1) = c + 1 + f by omega]
      exact h1
    · rw [if_neg z]
      exact Nat.lt_of_lt_of_le h (Nat.pow_le_pow_right (by decide) (by omega))
theorem kNum_w {M : Nat} {b : Nat → Nat} {n p q : Nat} {l : List Int32} (h : kNum b n p = (true, q, l)) : kHn M 1 l := by
  unfold kNum at h
  split at h
  · exact absurd (Prod.mk.inj h).1 (by decide)
  · rw [← (Prod.mk.inj (Prod.mk.inj h).2).2]
    have h1 := kNumL_v (b := b) (n := n) 4 p 0 0 (by decide)
    exact ⟨1, by omega, kWn.num h1⟩
theorem kAtomF_w {b : Nat → Nat} {n : Nat} {g : Nat → Int32} {m H : Nat} {op : Bool} {sm : Nat → kRes} (hs : kRn m H sm) (hm : m ≤ 8) (hH : 1 ≤ H) : kRn m H (kAtomF b n g m op sm) := by
  intro p q l h
  unfold kAtomF at h
  split at h
  · cases op with
    | false => exact absurd (Prod.mk.inj (show ((false, kSp b n p, []) : kRes) = (true, q, l) from h)).1 (by decide)
    | true =>
      obtain ⟨p2, x, h1, h2⟩ := kTh_i (show kTh (sm (kSp b n p + 1)) (fun q l => kTk b n 93 q l) = (true, q, l) from h)
      rw [kTk_i h2]
      exact hs _ _ _ h1
  · split at h
    · exact kHn_le (kNum_w h) hH
    · split at h
      · next hx =>
        rw [← (Prod.mk.inj (Prod.mk.inj h).2).2]
        exact ⟨1, hH, kWn.ltr hx (by omega)⟩
      · exact absurd (Prod.mk.inj h).1 (by decide)
theorem kFail_n (M H : Nat) : kRn M H (fun p => (false, p, [])) := fun _ _ _ h => absurd (Prod.mk.inj h).1 (by decide)
theorem kFail_b (M H : Nat) : kRb M H (fun p => (false, p, [])) := fun _ _ _ h => absurd (Prod.mk.inj h).1 (by decide)
theorem kSumF_w {M : Nat} {b : Nat → Nat} {n H : Nat} {a : Nat → kRes} (ha : kRn M H a) : kRn M (H + 2) (kSumF b n a) := by
  have h1 : kRn M (H + 1) (kMany b n 42 47 a a) := kMany_n ha (kRn_le ha (by omega)) (by omega) (by omega)
  exact kMany_n h1 (kRn_le h1 (by omega)) (by omega) (by omega)
theorem kAtomD_w {b : Nat → Nat} {n : Nat} {g : Nat → Int32} {m : Nat} (hm : m ≤ 8) : ∀ e, kRn m (2 * e + 1) (kAtomD b n g m e) := by
  intro e
  induction e with
  | zero => exact kAtomF_w (kFail_n m 1) hm (by omega)
  | succ e ih => exact kAtomF_w (kSumF_w ih) hm (by omega)
theorem kTermD_w {b : Nat → Nat} {n : Nat} {g : Nat → Int32} {m : Nat} (hm : m ≤ 8) (e : Nat) : kRn m (2 * e + 2) (kTermD b n g m e) := kMany_n (kAtomD_w hm e) (kRn_le (kAtomD_w hm e) (by omega)) (by omega) (by omega)
theorem kSumD_w {b : Nat → Nat} {n : Nat} {g : Nat → Int32} {m : Nat} (hm : m ≤ 8) (e : Nat) : kRn m (2 * e + 3) (kSumD b n g m e) := kSumF_w (kAtomD_w hm e)
theorem kCmp_w {b : Nat → Nat} {n : Nat} {g : Nat → Int32} {m : Nat} (hm : m ≤ 8) {e p q : Nat} {x l : List Int32} (hx : kHn m (2 * e + 3) x) (h : kCmp b n g m e p x = (true, q, l)) : kHb m (2 * e + 4) l := by
  unfold kCmp at h
  split at h
  · next hc =>
    obtain ⟨p2, y, h1, h2⟩ := kTh_i h
    obtain ⟨a, a1, a2⟩ := hx
    obtain ⟨c, c1, c2⟩ := kSumD_w hm e _ _ _ h1
    rw [← (Prod.mk.inj (Prod.mk.inj h2).2).2]
    exact ⟨max a (c + 1), by omega, kWb.cmp a2 c2 (by omega)⟩
  · exact absurd (Prod.mk.inj h).1 (by decide)
theorem kUnitF_w {b : Nat → Nat} {n : Nat} {g : Nat → Int32} {m : Nat} (hm : m ≤ 8) {e H : Nat} {op : Bool} {u c : Nat → kRes} (hu : kRb m H u) (hc : kRb m H c) (hH : 2 * e + 4 ≤ H) : kRb m H (kUnitF b n g m e op u c) := by
  intro p q l h
  unfold kUnitF at h
  split at h
  · cases op with
    | false => exact absurd (Prod.mk.inj (show ((false, kSp b n p, []) : kRes) = (true, q, l) from h)).1 (by decide)
    | true =>
      obtain ⟨p2, x, h1, h2⟩ := kTh_i (show kTh (u (kSp b n p + 1)) (fun q l => (true, q, l ++ [20033])) = (true, q, l) from h)
      obtain ⟨y, y1, y2⟩ := hu _ _ _ h1
      rw [← (Prod.mk.inj (Prod.mk.inj h2).2).2]
      exact ⟨y, y1, kWb.neg y2⟩
  · split at h
    · cases op with
      | false => exact absurd (Prod.mk.inj (show ((false, kSp b n p, []) : kRes) = (true, q, l) from h)).1 (by decide)
      | true =>
        obtain ⟨p2, x, h1, h2⟩ := kTh_i (show kTh (c (kSp b n p + 1)) (fun q l => kTk b n 41 q l) = (true, q, l) from h)
        rw [kTk_i h2]
        exact hc _ _ _ h1
    · obtain ⟨p2, x, h1, h2⟩ := kTh_i h
      exact kHb_le (kCmp_w hm (kSumD_w hm e _ _ _ h1) h2) hH
theorem kTruF_w {M : Nat} {b : Nat → Nat} {n H : Nat} {u z : Nat → kRes} (hu : kRb M H u) (hz : kRb M (H + 1) z) : kRb M (H + 1) (kTruF b n u z) := kMany_b hu hz (by omega)
theorem kConF_w {M : Nat} {b : Nat → Nat} {n H : Nat} {t z : Nat → kRes} (ht : kRb M H t) (hz : kRb M (H + 1) z) : kRb M (H + 1) (kConF b n t z) := kMany_b ht hz (by omega)
theorem kUnitD_w {b : Nat → Nat} {n : Nat} {g : Nat → Int32} {m : Nat} (hm : m ≤ 8) : ∀ e, kRb m (2 * e + 4) (kUnitD b n g m e) := by
  intro e
  induction e with
  | zero => exact kUnitF_w hm (kFail_b m 4) (kFail_b m 4) (by omega)
  | succ e ih =>
    have ht : kRb m (2 * e + 5) (kTruF b n (kUnitD b n g m e) (kUnitD b n g m e)) := kTruF_w ih (kRb_le ih (by omega))
    have hc : kRb m (2 * e + 6) (kConF b n (kTruF b n (kUnitD b n g m e) (kUnitD b n g m e)) (kTruF b n (kUnitD b n g m e) (kUnitD b n g m e))) := kConF_w ht (kRb_le ht (by omega))
    exact kUnitF_w hm (kRb_le ih (by omega)) hc (by omega)
theorem kTruD_w {b : Nat → Nat} {n : Nat} {g : Nat → Int32} {m : Nat} (hm : m ≤ 8) (e : Nat) : kRb m (2 * e + 5) (kTruD b n g m e) := kTruF_w (kUnitD_w hm e) (kRb_le (kUnitD_w hm e) (by omega))
theorem kConD_w {b : Nat → Nat} {n : Nat} {g : Nat → Int32} {m : Nat} (hm : m ≤ 8) (e : Nat) : kRb m (2 * e + 6) (kConD b n g m e) := kConF_w (kTruD_w hm e) (kRb_le (kTruD_w hm e) (by omega))
/-- within a million -/
def kBd (x : Int32) : Prop := -1000000 ≤ x.toInt ∧ x.toInt ≤ 1000000
theorem kClm_t (x : Int) : (kClm x).toInt = max (-1000000) (min 1000000 x) := by
  unfold kClm
  exact Int32.toInt_ofInt_of_le (by omega) (by omega)
theorem kClm_b (x : Int) : kBd (kClm x) := by
  unfold kBd
  rw [kClm_t]
  omega
theorem kBd0 : kBd 0 := by unfold kBd; decide
theorem kBd1 : kBd 1 := by unfold kBd; decide
theorem kBd01 {p : Prop} [Decidable p] : kBd (if p then 1 else 0) := by
  split
  · exact kBd1
  · exact kBd0
theorem kJn_b (s l r : Int32) : kBd (kJn s l r) := kClm_b _
theorem kStv_n {lt : Nat → Int32} {v : Nat} (h : v < 10000) : kStv lt (nI v) = nI v := if_pos (pk_sneg (a := v) (b := 10000) (by omega) h)
theorem kStv_l {lt : Nat → Int32} {k : Nat} (h : k < 8) : kStv lt (nI (10000 + k)) = lt k := by
  have e : nI (10000 + k) - 10000 = nI k := (pk_sub (a := 10000 + k) (b := 10000) (by omega)).trans (congrArg nI (by omega))
  unfold kStv
  rw [e, if_neg (nI_pos (n := k) (by omega)), if_pos (show nI k < 8 from nI_lt (a := k) (b := 8) h (by decide)), nI_clamp (by omega)]
theorem kVal_nn {lt : Nat → Int32} {v : Nat} (h : v < 10000) : kVal lt [nI v] = nI v := (kVal_num (by omega)).trans (kStv_n h)
theorem kVal_ll {lt : Nat → Int32} {k : Nat} (h : k < 8) : kVal lt [nI (10000 + k)] = lt k := (kVal_num (by omega)).trans (kStv_l h)
theorem kVal_bd {lt : Nat → Int32} {M : Nat} (hlt : ∀ j : Nat, j < M → kBd (lt j)) {h : Nat} {l : List Int32} (w : kWn M h l) : kBd (kVal lt l) := by
  refine kWn_ind (P := fun _ l => kBd (kVal lt l)) ?_ ?_ ?_ w
  · intro v hv
    rw [kVal_nn hv]
    unfold kBd
    rw [nI_toInt (by omega)]
    omega
  · intro k hk h8
    rw [kVal_ll h8]; exact hlt k hk
  · intro a b s l m h1 h2 hs i1 i2
    rw [kVal_n h1 h2 (by omega) (by omega)]; exact kJn_b _ _ _
theorem kVal_01 {lt : Nat → Int32} {M h : Nat} {l : List Int32} (w : kWb M h l) : kVal lt l = 0 ∨ kVal lt l = 1 := by
  refine kWb_ind (P := fun _ l => kVal lt l = 0 ∨ kVal lt l = 1) ?_ ?_ ?_ w
  · intro a b s l m h1 h2 hs
    rw [kVal_n h1 h2 (by omega) (by omega)]
    have h01 : ∀ (p : Prop) [Decidable p], kClm (if p then 1 else 0) = 0 ∨ kClm (if p then 1 else 0) = 1 := fun p _ => by
      split
      · exact Or.inr (by decide)
      · exact Or.inl (by decide)
    rcases hs with rfl | rfl | rfl
    · exact h01 (kVal lt l = kVal lt m)
    · exact h01 (kVal lt l < kVal lt m)
    · exact h01 (kVal lt m < kVal lt l)
  · intro a l h1 i1
    rw [kVal_not h1]
    split
    · exact Or.inr rfl
    · exact Or.inl rfl
  · intro a b s l m h1 h2 hs i1 i2
    rw [kVal_b h1 h2 (by omega) (by omega)]
    rcases hs with rfl | rfl <;> rcases i1 with e1 | e1 <;> rcases i2 with e2 | e2 <;> rw [e1, e2] <;> decide
/-- what a text is worth under a label: the first clause that has it and holds -/
def kSeg (xl : List Int32) (a b : Nat) : List Int32 := (xl.drop a).take (b - a)
/-- behind a sum that is read: what is laid upon it -/
def kWz (M h : Nat) (l : List Int32) : Prop := ∀ P : Nat → List Int32 → Prop, (∀ (b s : Nat) (m : List Int32), kWn M b m → (s = 61 ∨ s = 60 ∨ s = 62) → P (b + 1) ([] ++ m ++ [nI (20000 + s)])) → (∀ (a b s : Nat) (l m : List Int32), P a l → kWb M b m → (s = 38 ∨ s = 124) → P (max a (b + 1)) (l ++ m ++ [nI (20000 + s)])) → P h l
theorem kWz.cmp {M b s : Nat} {m : List Int32} (h2 : kWn M b m) (hs : (s = 61 ∨ s = 60 ∨ s = 62)) : kWz M (b + 1) ([] ++ m ++ [nI (20000 + s)]) := fun _ c1 _ => c1 b s m h2 hs
theorem kWz.bin {M a b s : Nat} {l m : List Int32} (h1 : kWz M a l) (h2 : kWb M b m) (hs : (s = 38 ∨ s = 124)) : kWz M (max a (b + 1)) (l ++ m ++ [nI (20000 + s)]) := fun P c1 c2 => c2 a b s l m (h1 P c1 c2) h2 hs
theorem kWz_ind {M : Nat} {P : Nat → List Int32 → Prop} (c1 : ∀ (b s : Nat) (m : List Int32), kWn M b m → (s = 61 ∨ s = 60 ∨ s = 62) → P (b + 1) ([] ++ m ++ [nI (20000 + s)])) (c2 : ∀ (a b s : Nat) (l m : List Int32), kWz M a l → kWb M b m → (s = 38 ∨ s = 124) → P a l → P (max a (b + 1)) (l ++ m ++ [nI (20000 + s)])) {h : Nat} {l : List Int32} (w : kWz M h l) : P h l :=
  (w (fun h l => kWz M h l ∧ P h l) (fun b s m x hs => ⟨kWz.cmp x hs, c1 b s m x hs⟩) (fun a b s l m x y hs => ⟨kWz.bin x.1 y hs, c2 a b s l m x.1 y hs x.2⟩)).2
def kVaz (lt : Nat → Int32) (p : Int32) (l : List Int32) : Int32 := (kEv lt l [p]).headD 0
theorem kEz_of {lt : Nat → Int32} {l : List Int32} (h : ∀ p : Int32, ∃ v : Int32, ∀ st : List Int32, kEv lt l (p :: st) = v :: st) : ∀ (p : Int32) (st : List Int32), kEv lt l (p :: st) = kVaz lt p l :: st := by
  intro p st
  obtain ⟨v, hv⟩ := h p
  unfold kVaz
  rw [hv st, hv []]
  rfl
theorem kWz_ev {lt : Nat → Int32} {M h : Nat} {l : List Int32} (w : kWz M h l) : ∀ (p : Int32) (st : List Int32), kEv lt l (p :: st) = kVaz lt p l :: st := by
  refine kWz_ind (P := fun _ l => ∀ (p : Int32) (st : List Int32), kEv lt l (p :: st) = kVaz lt p l :: st) ?_ ?_ w
  · intro b s m h2 hs
    refine kEz_of (fun p => ⟨kJn (nI s) p (kVal lt m), fun st => ?_⟩)
    rw [List.nil_append, kEv_app, kWn_ev h2]
    show kEv lt [] (kEv1 lt (nI (20000 + s)) (kVal lt m :: p :: st)) = _
    rw [kEv1_s (by omega) (by omega)]
    rfl
  · intro a b s l m h1 h2 hs i1
    refine kEz_of (fun p => ⟨kJn (nI s) (kVaz lt p l) (kVal lt m), fun st => ?_⟩)
    rw [kEv_app, kEv_app, i1, kWb_ev h2]
    show kEv lt [] (kEv1 lt (nI (20000 + s)) (kVal lt m :: kVaz lt p l :: st)) = _
    rw [kEv1_s (by omega) (by omega)]
    rfl
theorem kVaz_c {lt : Nat → Int32} {M b s : Nat} {m : List Int32} {p : Int32} (h2 : kWn M b m) (hs : s < 128) (h33 : ¬ s = 33) : kVaz lt p ([] ++ m ++ [nI (20000 + s)]) = kJn (nI s) p (kVal lt m) := by
  show (kEv lt _ [p]).headD 0 = _
  rw [List.nil_append, kEv_app, kWn_ev h2]
  show (kEv lt [] (kEv1 lt (nI (20000 + s)) (kVal lt m :: [p]))).headD 0 = _
  rw [kEv1_s hs h33]
  rfl
theorem kVaz_b {lt : Nat → Int32} {M a b s : Nat} {l m : List Int32} {p : Int32} (h1 : kWz M a l) (h2 : kWb M b m) (hs : s < 128) (h33 : ¬ s = 33) : kVaz lt p (l ++ m ++ [nI (20000 + s)]) = kJn (nI s) (kVaz lt p l) (kVal lt m) := by
  show (kEv lt _ [p]).headD 0 = _
  rw [kEv_app, kEv_app, kWz_ev h1, kWb_ev h2]
  show (kEv lt [] (kEv1 lt (nI (20000 + s)) (kVal lt m :: [kVaz lt p l]))).headD 0 = _
  rw [kEv1_s hs h33]
  rfl
theorem kVal_z {lt : Nat → Int32} {M a b : Nat} {l m : List Int32} (h1 : kWn M a l) (h2 : kWz M b m) : kVal lt (l ++ m) = kVaz lt (kVal lt l) m := by
  show (kEv lt _ []).headD 0 = _
  rw [kEv_app, kWn_ev h1, kWz_ev h2]
  rfl
theorem kWz_fit {M h : Nat} {l : List Int32} (w : kWz M h l) : ∀ (n : Nat) (r : List Int32), n + h ≤ 32 → kFit r (n + 1) → kFit (l ++ r) (n + 1) := by
  refine kWz_ind (P := fun h l => ∀ (n : Nat) (r : List Int32), n + h ≤ 32 → kFit r (n + 1) → kFit (l ++ r) (n + 1)) ?_ ?_ w
  · intro b s m h2 hs
    intro n r hn hr
    rw [List.nil_append, List.append_assoc]
    refine kWn_fit h2 (n + 1) _ (by omega) ?_
    exact kFit_s (by omega) (by omega) (by omega) hr
  · intro a b s l m h1 h2 hs i1
    intro n r hn hr
    rw [List.append_assoc, List.append_assoc]
    refine i1 n _ (by omega) (kWb_fit h2 (n + 1) _ (by omega) ?_)
    exact kFit_s (by omega) (by omega) (by omega) hr
/-- the same under a bound of the height -/
def kHz (M H : Nat) (l : List Int32) : Prop := ∃ h : Nat, h ≤ H ∧ kWz M h l
theorem kHz_le {M H K : Nat} {l : List Int32} (h : kHz M H l) (hk : H ≤ K) : kHz M K l := by obtain ⟨x, h1, h2⟩ := h; exact ⟨x, by omega, h2⟩
theorem kHz_bin {M A H s : Nat} {l m : List Int32} (h1 : kHz M H l) (h2 : kHb M A m) (hA : A + 1 ≤ H) (hs : s = 38 ∨ s = 124) : kHz M H (l ++ m ++ [nI (20000 + s)]) := by
  obtain ⟨x, x1, x2⟩ := h1
  obtain ⟨y, y1, y2⟩ := h2
  exact ⟨max x (y + 1), by omega, kWz.bin x2 y2 hs⟩
theorem kValN {lt : Nat → Int32} {M H A s : Nat} {l m : List Int32} (h1 : kHn M H l) (h2 : kHn M A m) (hs : s < 128) (h33 : ¬ s = 33) : kVal lt (l ++ m ++ [nI (20000 + s)]) = kJn (nI s) (kVal lt l) (kVal lt m) := by
  obtain ⟨x, -, x2⟩ := h1
  obtain ⟨y, -, y2⟩ := h2
  exact kVal_n x2 y2 hs h33
theorem kValB {lt : Nat → Int32} {M H A s : Nat} {l m : List Int32} (h1 : kHb M H l) (h2 : kHb M A m) (hs : s < 128) (h33 : ¬ s = 33) : kVal lt (l ++ m ++ [nI (20000 + s)]) = kJn (nI s) (kVal lt l) (kVal lt m) := by
  obtain ⟨x, -, x2⟩ := h1
  obtain ⟨y, -, y2⟩ := h2
  exact kVal_b x2 y2 hs h33
theorem kValNot {lt : Nat → Int32} {M H : Nat} {l : List Int32} (h1 : kHb M H l) : kVal lt (l ++ [20033]) = if kVal lt l = 0 then 1 else 0 := by
  obtain ⟨x, -, x2⟩ := h1
  exact kVal_not x2
theorem kVazC {lt : Nat → Int32} {M A s : Nat} {m : List Int32} {p : Int32} (h2 : kHn M A m) (hs : s < 128) (h33 : ¬ s = 33) : kVaz lt p ([] ++ m ++ [nI (20000 + s)]) = kJn (nI s) p (kVal lt m) := by
  obtain ⟨y, -, y2⟩ := h2
  exact kVaz_c y2 hs h33
theorem kVazB {lt : Nat → Int32} {M H A s : Nat} {l m : List Int32} {p : Int32} (h1 : kHz M H l) (h2 : kHb M A m) (hs : s < 128) (h33 : ¬ s = 33) : kVaz lt p (l ++ m ++ [nI (20000 + s)]) = kJn (nI s) (kVaz lt p l) (kVal lt m) := by
  obtain ⟨x, -, x2⟩ := h1
  obtain ⟨y, -, y2⟩ := h2
  exact kVaz_b x2 y2 hs h33
theorem kValBd {lt : Nat → Int32} {M H : Nat} (hlt : ∀ j : Nat, j < M → kBd (lt j)) {l : List Int32} (h : kHn M H l) : kBd (kVal lt l) := by
  obtain ⟨x, -, x2⟩ := h
  exact kVal_bd hlt x2
theorem kUnitZ_w {b : Nat → Nat} {n : Nat} {g : Nat → Int32} {m : Nat} (hm : m ≤ 8) {e p q : Nat} {l : List Int32} (h : kUnitZ b n g m e p = (true, q, l)) : kHz m (2 * e + 4) l := by
  unfold kUnitZ kCmp at h
  split at h
  · next hc =>
    obtain ⟨p2, y, h1, h2⟩ := kTh_i h
    obtain ⟨c, c1, c2⟩ := kSumD_w hm e _ _ _ h1
    rw [← (Prod.mk.inj (Prod.mk.inj h2).2).2]
    exact ⟨c + 1, by omega, kWz.cmp c2 (by omega)⟩
  · exact absurd (Prod.mk.inj h).1 (by decide)
theorem kLoop_zz {M : Nat} {b : Nat → Nat} {n c A H : Nat} {a : Nat → kRes} (ha : kRb M A a) (hA : A + 1 ≤ H) (hc : c = 38 ∨ c = 124) : ∀ (f p q : Nat) (l r : List Int32), kHz M H l → kLoop b n c c a f p l = (true, q, r) → kHz M H r := by
  intro f
  induction f with
  | zero => intro p q l r hl h; rw [← (Prod.mk.inj (Prod.mk.inj (show ((true, p, l) : kRes) = (true, q, r) from h)).2).2]; exact hl
  | succ f ih =>
    intro p q l r hl h
    by_cases z : kLk b n p = c ∨ kLk b n p = c
    · have h2 : kTh (a (kSp b n p + 1)) (fun q m => kLoop b n c c a f q (l ++ m ++ [nI (20000 + kLk b n p)])) = (true, q, r) := (if_pos z).symm.trans h
      obtain ⟨p2, x, h3, h4⟩ := kTh_i h2
      exact ih p2 q _ r (kHz_bin hl (ha _ _ _ h3) hA (by omega)) h4
    · rw [kLoop_e z] at h
      rw [← (Prod.mk.inj (Prod.mk.inj h).2).2]; exact hl
theorem kTruZ_w {b : Nat → Nat} {n : Nat} {g : Nat → Int32} {m : Nat} (hm : m ≤ 8) {e p q : Nat} {l : List Int32} (h : kTruZ b n g m e p = (true, q, l)) : kHz m (2 * e + 5) l := by
  obtain ⟨p2, x, h1, h2⟩ := kTh_i h
  exact kLoop_zz (kUnitD_w hm e) (Nat.le_refl _) (by omega) 120 p2 q x l (kHz_le (kUnitZ_w hm h1) (by omega)) h2
theorem kConZ_w {b : Nat → Nat} {n : Nat} {g : Nat → Int32} {m : Nat} (hm : m ≤ 8) {e p q : Nat} {l : List Int32} (h : kConZ b n g m e p = (true, q, l)) : kHz m (2 * e + 6) l := by
  obtain ⟨p2, x, h1, h2⟩ := kTh_i h
  exact kLoop_zz (kTruD_w hm e) (Nat.le_refl _) (by omega) 120 p2 q x l (kHz_le (kTruZ_w hm h1) (by omega)) h2
/-- the letters as the reference keeps them -/
def kLt (gE g7 : Nat → Int32) : Nat → Int32 := fun k => gE (Int32.toNatClampNeg (g7 k))
theorem kFd_at {g : Nat → Int32} {c : Int32} : ∀ (f j : Nat), kFd g c f j < j + f → g (kFd g c f j) = c := by
  intro f
  induction f with
  | zero => intro j h; exact absurd h (Nat.lt_irrefl _)
  | succ f ih =>
    intro j h
    by_cases z : g j = c
    · rw [kFd_h z]; exact z
    · rw [kFd_s z] at h ⊢
      exact ih (j + 1) (by omega)
theorem kIx_at {g : Nat → Int32} {n : Nat} {c : Int32} (h : kIx g n c < n) : g (kIx g n c) = c := kFd_at n 0 (by have h2 : kFd g c n 0 < n := h; omega)
theorem kVal_let {gE g7 : Nat → Int32} {n7 ch : Nat} (h : kIx g7 n7 (nI ch) < n7) (hn : n7 ≤ 8) (hc : ch < 256) : kVal (kLt gE g7) [nI (10000 + kIx g7 n7 (nI ch))] = gE ch := by
  rw [kVal_ll (by omega)]
  unfold kLt
  rw [kIx_at h, nI_clamp (by omega)]
/-- the stack as it lies in the row -/
def kStk (o : Nat → Int32) (st : List Int32) : Prop := ∀ k : Nat, k < st.length → o k = st.getD (st.length - 1 - k) 0
theorem kStk_nil (o : Nat → Int32) : kStk o [] := fun k hk => absurd hk (Nat.not_lt_zero k)
theorem kStk_push {o o1 : Nat → Int32} {st : List Int32} {v : Int32} {n : Nat} (hn : st.length = n) (hb : n < 2 ^ 31) (e : o1 = upd o (Int32.toNatClampNeg (nI n)) v) (h : kStk o st) : kStk o1 (v :: st) := fun k hk => by
  rw [e, nI_clamp hb]
  rw [List.length_cons] at hk ⊢
  by_cases z : k = n
  · rw [z, pk_us, hn, show n + 1 - 1 - n = 0 by omega]
    rfl
  · rw [pk_un z, h k (by omega), show st.length + 1 - 1 - k = (st.length - 1 - k) + 1 by omega]
    rfl
theorem kStk_top {o : Nat → Int32} {a : Int32} {r : List Int32} {n : Nat} (hn : (a :: r).length = n) (h : kStk o (a :: r)) : o (n - 1) = a := by
  rw [List.length_cons] at hn
  rw [h (n - 1) (by rw [List.length_cons]; omega), List.length_cons, show r.length + 1 - 1 - (n - 1) = 0 by omega]
  rfl
theorem kStk_snd {o : Nat → Int32} {a b : Int32} {r : List Int32} {n : Nat} (hn : (b :: a :: r).length = n) (h : kStk o (b :: a :: r)) : o (n - 1 - 1) = a := by
  rw [List.length_cons, List.length_cons] at hn
  rw [h (n - 1 - 1) (by rw [List.length_cons, List.length_cons]; omega), List.length_cons, List.length_cons, show r.length + 1 + 1 - 1 - (n - 1 - 1) = 1 by omega]
  rfl
theorem kStk_rest {o : Nat → Int32} {a : Int32} {r : List Int32} (h : kStk o (a :: r)) : kStk o r := fun k hk => by
  rw [h k (by rw [List.length_cons]; omega), List.length_cons, show r.length + 1 - 1 - k = (r.length - 1 - k) + 1 by omega]
  rfl
theorem kStk_bot {o : Nat → Int32} {v : Int32} (h : kStk o [v]) : o 0 = v := h 0 (by show 0 < 1; decide)
theorem kFit_p {x : Int32} {l : List Int32} {n : Nat} (c : x < 20000) (h : kFit (x :: l) n) : n < 32 ∧ kFit l (n + 1) := by
  unfold kFit at h
  rw [if_pos c] at h
  exact h
theorem kFit_n {l : List Int32} {n : Nat} (h : kFit (20033 :: l) n) : 1 ≤ n ∧ kFit l n := by
  unfold kFit at h
  rw [if_neg (by decide), if_pos rfl] at h
  exact h
theorem kFit_j {x : Int32} {l : List Int32} {n : Nat} (c : ¬ x < 20000) (c2 : ¬ x = 20033) (h : kFit (x :: l) n) : 2 ≤ n ∧ kFit l (n - 1) := by
  unfold kFit at h
  rw [if_neg c, if_neg c2] at h
  exact h
theorem kEv1_p {lt : Nat → Int32} {x : Int32} {st : List Int32} (c : x < 20000) : kEv1 lt x st = kStv lt x :: st := if_pos c
theorem kEv1_j {lt : Nat → Int32} {x a b : Int32} {st : List Int32} (c : ¬ x < 20000) (c2 : ¬ x = 20033) : kEv1 lt x (b :: a :: st) = kJn (x - 20000) a b :: st := by
  unfold kEv1
  rw [if_neg c, if_neg c2]
theorem kDrp {g : Nat → Int32} {L : List Int32} {ps i : Nat} (hs : ∀ j : Nat, j < L.length → g (ps + j) = L.getD j 0) (h1 : ps ≤ i) (h2 : i < ps + L.length) : L.drop (i - ps) = g i :: L.drop (i + 1 - ps) := by
  have hj : i - ps < L.length := by omega
  have e := hs (i - ps) hj
  rw [show ps + (i - ps) = i by omega] at e
  rw [e, show i + 1 - ps = (i - ps) + 1 by omega, List.drop_eq_getElem_cons hj]
  congr 1
  rw [List.getD_eq_getElem?_getD, List.getElem?_eq_getElem hj]
  rfl
theorem kLen1 {st : List Int32} {n : Nat} (h : st.length = n) (hn : 1 ≤ n) : ∃ (a : Int32) (r : List Int32), st = a :: r := by
  cases st with
  | nil => simp at h; omega
  | cons a r => exact ⟨a, r, rfl⟩
theorem kLen2 {st : List Int32} {n : Nat} (h : st.length = n) (hn : 2 ≤ n) : ∃ (b a : Int32) (r : List Int32), st = b :: a :: r := by
  cases st with
  | nil => simp at h; omega
  | cons b r =>
    cases r with
    | nil => simp at h; omega
    | cons a r => exact ⟨b, a, r, rfl⟩
theorem kBm {x : Int} (h1 : -9223372036854775808 ≤ x) (h2 : x < 9223372036854775808) : x.bmod (2 ^ 64) = x := Int.bmod_eq_of_le (by omega) (by omega)
theorem kL32 (a : Int32) : -2147483648 ≤ a.toInt ∧ a.toInt < 2147483648 := by
  have h1 := a.le_toInt
  have h2 := a.toInt_lt
  omega
theorem kL_add (a b : Int32) : (a.toInt64 + b.toInt64).toInt = a.toInt + b.toInt := by
  have h1 := kL32 a
  have h2 := kL32 b
  rw [Int64.toInt_add, Int32.toInt_toInt64, Int32.toInt_toInt64]
  exact kBm (by omega) (by omega)
theorem kL_sub (a b : Int32) : (a.toInt64 - b.toInt64).toInt = a.toInt - b.toInt := by
  have h1 := kL32 a
  have h2 := kL32 b
  rw [Int64.toInt_sub, Int32.toInt_toInt64, Int32.toInt_toInt64]
  exact kBm (by omega) (by omega)
theorem kMulB {a b : Int} (h1 : -2147483648 ≤ a ∧ a < 2147483648) (h2 : -2147483648 ≤ b ∧ b < 2147483648) : -9223372036854775808 ≤ a * b ∧ a * b < 9223372036854775808 := by
  have h3 : (a * b).natAbs ≤ 4611686018427387904 := by
    rw [Int.natAbs_mul]
    exact Nat.mul_le_mul (show a.natAbs ≤ 2147483648 by omega) (show b.natAbs ≤ 2147483648 by omega)
  omega
theorem kL_mul (a b : Int32) : (a.toInt64 * b.toInt64).toInt = a.toInt * b.toInt := by
  have h := kMulB (kL32 a) (kL32 b)
  rw [Int64.toInt_mul, Int32.toInt_toInt64, Int32.toInt_toInt64]
  exact kBm h.1 h.2
theorem kClm_hi {x : Int} (h : 1000000 ≤ x) : kClm x = 1000000 := by
  unfold kClm
  rw [show max (-1000000) (min 1000000 x) = 1000000 by omega]
  rfl
theorem kClm_lo {x : Int} (h : x ≤ -1000000) : kClm x = -1000000 := by
  unfold kClm
  rw [show max (-1000000) (min 1000000 x) = -1000000 by omega]
  rfl
theorem kClm_in {w : Int64} (h1 : -1000000 ≤ w.toInt) (h2 : w.toInt ≤ 1000000) : Int64.toInt32 w = kClm w.toInt := by
  unfold kClm
  rw [show max (-1000000) (min 1000000 w.toInt) = w.toInt by omega]
  apply Int32.toInt_inj.mp
  rw [Int32.toInt_ofInt_of_le (by omega) (by omega)]
  rw [Int64.toInt_toInt32]
  exact Int.bmod_eq_of_le (by omega) (by omega)
theorem kCmpG1 {w : Int64} {x : Int32} (e : x = lg_cmp w 1000000) (c : ¬ x ≤ 0) : 1000000 < w.toInt := by
  rw [e] at c
  unfold lg_cmp at c
  by_cases h1 : w > 1000000
  · exact Int64.lt_iff_toInt_lt.mp h1
  · rw [if_neg h1] at c
    exfalso
    apply c
    split <;> decide
theorem kCmpG0 {w : Int64} {x : Int32} (e : x = lg_cmp w 1000000) (c : x ≤ 0) : w.toInt ≤ 1000000 := by
  rw [e] at c
  unfold lg_cmp at c
  by_cases h1 : w > 1000000
  · rw [if_pos h1] at c; exact absurd c (by decide)
  · have h2 : ¬ (1000000 : Int64).toInt < w.toInt := fun z => h1 (Int64.lt_iff_toInt_lt.mpr z)
    have h3 : (1000000 : Int64).toInt = 1000000 := by decide
    rw [h3] at h2
    omega
theorem kCmpL1 {w : Int64} {x : Int32} (e : x = lg_cmp w (-1000000)) (c : ¬ 0 ≤ x) : w.toInt < -1000000 := by
  rw [e] at c
  unfold lg_cmp at c
  by_cases h1 : w > (-1000000)
  · rw [if_pos h1] at c; exact absurd (by decide) c
  · rw [if_neg h1] at c
    by_cases h2 : w = (-1000000)
    · rw [if_pos h2] at c; exact absurd (by decide) c
    · have h3 : ¬ (-1000000 : Int64).toInt < w.toInt := fun z => h1 (Int64.lt_iff_toInt_lt.mpr z)
      have h4 : ¬ w.toInt = (-1000000 : Int64).toInt := fun z => h2 (Int64.toInt_inj.mp z)
      have h5 : (-1000000 : Int64).toInt = -1000000 := by decide
      rw [h5] at h3 h4
      omega
theorem kCmpL0 {w : Int64} {x : Int32} (e : x = lg_cmp w (-1000000)) (c : 0 ≤ x) : -1000000 ≤ w.toInt := by
  rw [e] at c
  unfold lg_cmp at c
  have h5 : (-1000000 : Int64).toInt = -1000000 := by decide
  by_cases h1 : w > (-1000000)
  · have h2 := Int64.lt_iff_toInt_lt.mp h1
    rw [h5] at h2
    omega
  · rw [if_neg h1] at c
    by_cases h2 : w = (-1000000)
    · rw [h2, h5]
      omega
    · rw [if_neg h2] at c; exact absurd c (by decide)
theorem kIn8 {x : Int32} (h0 : ¬ x < 0) (h1 : ¬ 8 ≤ x) : vp_in x 8 := vp_in_iff.mpr ⟨by
  have h2 : ¬ x.toInt < (0 : Int32).toInt := fun z => h0 (Int32.lt_iff_toInt_lt.mpr z)
  have h3 : (0 : Int32).toInt = 0 := by decide
  rw [h3] at h2
  omega, by
  have h2 : ¬ (8 : Int32).toInt ≤ x.toInt := fun z => h1 (Int32.le_iff_toInt_le.mpr z)
  have h3 : (8 : Int32).toInt = 8 := by decide
  rw [h3] at h2
  omega⟩
