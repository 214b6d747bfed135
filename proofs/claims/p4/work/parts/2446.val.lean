/-- a clause: its label's number, its condition, its sum -/
abbrev kTr : Type := Nat × List Int32 × List Int32
def kFl : List kTr → List Int32
  | [] => []
  | (_, c, m) :: r => c ++ m ++ kFl r
def kRw : Nat → List kTr → List Int32
  | _, [] => []
  | o, (j, c, m) :: r => [nI j, nI o, nI (o + c.length), nI (o + (c ++ m).length)] ++ kRw (o + (c ++ m).length) r
/-- what a text is worth under a label -/
def kWoT (lt : Nat → Int32) (lab : Nat) : List kTr → Int32
  | [] => 0
  | (j, c, m) :: r => if j = lab ∧ (c = [] ∨ ¬ kVal lt c = 0) then kVal lt m else kWoT lt lab r
/-- a clause that can be reckoned -/
def kGdC (N M : Nat) (z : kTr) : Prop := z.1 < N ∧ (z.2.1 = [] ∨ kHb M 18 z.2.1) ∧ kHn M 15 z.2.2
theorem kFl_app (b : List kTr) : ∀ a : List kTr, kFl (a ++ b) = kFl a ++ kFl b := by
  intro a
  induction a with
  | nil => rfl
  | cons z a ih =>
    obtain ⟨j, c, m⟩ := z
    show c ++ m ++ kFl (a ++ b) = c ++ m ++ kFl a ++ kFl b
    rw [ih]
    simp only [List.append_assoc]
theorem kRw_app (b : List kTr) : ∀ (a : List kTr) (o : Nat), kRw o (a ++ b) = kRw o a ++ kRw (o + (kFl a).length) b := by
  intro a
  induction a with
  | nil => intro o; rfl
  | cons z a ih =>
    intro o
    obtain ⟨j, c, m⟩ := z
    show _ ++ kRw _ (a ++ b) = (_ ++ kRw _ a) ++ kRw (o + (c ++ m ++ kFl a).length) b
    rw [ih, List.append_assoc, List.length_append (as := c ++ m) (bs := kFl a), Nat.add_assoc]
theorem kHb_z {M A H : Nat} {l k : List Int32} (h1 : kHn M A l) (h2 : kHz M H k) : kHb M (max A H) (l ++ k) := by
  obtain ⟨x, x1, x2⟩ := h1
  obtain ⟨y, y1, y2⟩ := h2
  have h3 : ∀ {y : Nat} {k : List Int32}, kWz M y k → kWb M (max x y) (l ++ k) := by
    intro y k w
    refine kWz_ind (P := fun y k => kWb M (max x y) (l ++ k)) ?_ ?_ w
    · intro b s m w2 hs
      rw [List.nil_append, ← List.append_assoc]
      exact kWb.cmp x2 w2 hs
    · intro a b s p m _ w2 hs ih
      have h4 := kWb.bin ih w2 hs
      rw [show l ++ (p ++ m ++ [nI (20000 + s)]) = l ++ p ++ m ++ [nI (20000 + s)] by simp only [List.append_assoc]]
      rw [show max x (max a (b + 1)) = max (max x a) (b + 1) by omega]
      exact h4
  exact ⟨max x y, by omega, h3 y2⟩
theorem kThC_i {r : kRes} {k : Nat → List Int32 → kClR} {q : Nat} {l : List Int32} {j m : Nat} (h : kThC r k = (true, q, l, j, m)) : ∃ (p : Nat) (x : List Int32), r = (true, p, x) ∧ k p x = (true, q, l, j, m) := by
  obtain ⟨o, p, x⟩ := r
  cases o with
  | true => exact ⟨p, x, rfl, h⟩
  | false => exact absurd (Prod.mk.inj (show ((false, p, [], 0, 0) : kClR) = (true, q, l, j, m) from h)).1 (by decide)
theorem kCla2_i {b : Nat → Nat} {n : Nat} {g : Nat → Int32} {m : Nat} (hm : m ≤ 8) {j p q i k : Nat} {l x : List Int32} (hl : kHb m 18 l) (h : kCla2 b n g m j p l = (true, q, x, i, k)) : ∃ c s : List Int32, x = c ++ s ∧ c.length = k ∧ i = j ∧ (c = [] ∨ kHb m 18 c) ∧ kHn m 15 s := by
  unfold kCla2 at h
  obtain ⟨p2, y, _, h2⟩ := kThC_i h
  obtain ⟨p3, z, h3, h4⟩ := kThC_i h2
  have e := Prod.mk.inj (Prod.mk.inj h4).2
  have e2 := Prod.mk.inj e.2
  have e3 := Prod.mk.inj e2.2
  exact ⟨l, z, e2.1.symm, e3.2, e3.1.symm, Or.inr hl, kSumD_w hm 6 _ _ _ h3⟩
theorem kCla_i {b : Nat → Nat} {n : Nat} {g6 : Nat → Int32} {n6 : Nat} {g : Nat → Int32} {m : Nat} (hm : m ≤ 8) {p q i k : Nat} {x : List Int32} (h : kCla b n g6 n6 g m p = (true, q, x, i, k)) : ∃ c s : List Int32, x = c ++ s ∧ c.length = k ∧ i = kIx g6 n6 (nI (kLk b n p)) ∧ i < n6 ∧ (c = [] ∨ kHb m 18 c) ∧ kHn m 15 s := by
  unfold kCla at h
  split at h
  · next hx =>
    obtain ⟨p2, y, _, h2⟩ := kThC_i h
    unfold kCla1 at h2
    split at h2
    · obtain ⟨p3, z, h3, h4⟩ := kThC_i h2
      obtain ⟨c, s, a1, a2, a3, a4, a5⟩ := kCla2_i hm (kConD_w hm 6 _ _ _ h3) h4
      exact ⟨c, s, a1, a2, a3, by rw [a3]; exact hx, a4, a5⟩
    · obtain ⟨p3, z, h3, h4⟩ := kThC_i h2
      split at h4
      · obtain ⟨p4, w, h5, h6⟩ := kThC_i h4
        obtain ⟨c, s, a1, a2, a3, a4, a5⟩ := kCla2_i hm (kHb_le (kHb_z (kSumD_w hm 6 _ _ _ h3) (kConZ_w hm h5)) (by omega)) h6
        exact ⟨c, s, a1, a2, a3, by rw [a3]; exact hx, a4, a5⟩
      · have e := Prod.mk.inj (Prod.mk.inj h4).2
        have e2 := Prod.mk.inj e.2
        have e3 := Prod.mk.inj e2.2
        exact ⟨[], z, e2.1.symm, e3.2, e3.1.symm, by rw [← e3.1]; exact hx, Or.inl rfl, kSumD_w hm 6 _ _ _ h3⟩
  · exact absurd (Prod.mk.inj h).1 (by decide)
/-- what was read is a list of clauses -/
theorem kRdL_tr {b : Nat → Nat} {n : Nat} {g6 : Nat → Int32} {n6 : Nat} {g : Nat → Int32} {m : Nat} (hm : m ≤ 8) : ∀ (f p q : Nat) (l c x y : List Int32) (t : List kTr), l = kFl t → c = kRw 0 t → (∀ z ∈ t, kGdC n6 m z) → kRdL b n g6 n6 g m f p l c = (true, q, x, y) → ∃ t2 : List kTr, x = kFl t2 ∧ y = kRw 0 t2 ∧ ∀ z ∈ t2, kGdC n6 m z := by
  intro f
  induction f with
  | zero => intro p q l c x y t _ _ _ h; exact absurd (Prod.mk.inj h).1 (by decide)
  | succ f ih =>
    intro p q l c x y t hl hc ht h
    obtain ⟨o, p2, w, j, k, hK⟩ : ∃ (o : Bool) (p2 : Nat) (w : List Int32) (j k : Nat), kCla b n g6 n6 g m p = (o, p2, w, j, k) := ⟨_, _, _, _, _, rfl⟩
    cases o with
    | false => rw [kRdL_f hK] at h; exact absurd (Prod.mk.inj h).1 (by decide)
    | true =>
      rw [kRdL_t hK] at h
      obtain ⟨cc, s, e1, e2, e3, e4, e5, e6⟩ := kCla_i hm hK
      have hl2 : l ++ w = kFl (t ++ [(j, cc, s)]) := by
        rw [kFl_app, ← hl, e1]
        show _ = l ++ (cc ++ s ++ [])
        rw [List.append_nil]
      have hc2 : c ++ [nI j, nI l.length, nI (l.length + k), nI (l.length + w.length)] = kRw 0 (t ++ [(j, cc, s)]) := by
        rw [kRw_app, ← hc, ← hl, Nat.zero_add, e1, ← e2]
        rfl
      have ht2 : ∀ z ∈ t ++ [(j, cc, s)], kGdC n6 m z := by
        intro z hz
        rcases List.mem_append.mp hz with hz | hz
        · exact ht z hz
        · rw [List.mem_singleton.mp hz]; exact ⟨e4, e5, e6⟩
      by_cases h0 : kLk b n p2 = 0
      · rw [kRdA_0 h0] at h
        have a1 := Prod.mk.inj (Prod.mk.inj h).2
        have a2 := Prod.mk.inj a1.2
        exact ⟨t ++ [(j, cc, s)], by rw [← a2.1]; exact hl2, by rw [← a2.2]; exact hc2, ht2⟩
      · by_cases h59 : kLk b n p2 = 59
        · rw [kRdA_s h59] at h
          exact ih _ q _ _ x y _ hl2 hc2 ht2 h
        · rw [kRdA_f h0 h59] at h
          exact absurd (Prod.mk.inj h).1 (by decide)
theorem kRead_tr {b : Nat → Nat} {n : Nat} {g6 : Nat → Int32} {n6 : Nat} {g : Nat → Int32} {m : Nat} (hm : m ≤ 8) {q : Nat} {x y : List Int32} (h : kRead b n g6 n6 g m = (true, q, x, y)) : ∃ t : List kTr, x = kFl t ∧ y = kRw 0 t ∧ ∀ z ∈ t, kGdC n6 m z := kRdL_tr hm 31 0 q [] [] x y [] rfl rfl (fun z hz => absurd hz List.not_mem_nil) h
/-- the clauses of a text, as they are read -/
def kTrA (t : List kTr) (x : List Int32) (j k : Nat) : List kTr := t ++ [(j, x.take k, x.drop k)]
def kRdT (b : Nat → Nat) (n : Nat) (g6 : Nat → Int32) (n6 : Nat) (g : Nat → Int32) (m : Nat) : Nat → Nat → List kTr → List kTr
  | 0, _, _ => []
  | f + 1, p, t =>
    if (kCla b n g6 n6 g m p).1 then
      (if kLk b n (kCla b n g6 n6 g m p).2.1 = 0 then kTrA t (kCla b n g6 n6 g m p).2.2.1 (kCla b n g6 n6 g m p).2.2.2.1 (kCla b n g6 n6 g m p).2.2.2.2
       else if kLk b n (kCla b n g6 n6 g m p).2.1 = 59 then kRdT b n g6 n6 g m f (kSp b n (kCla b n g6 n6 g m p).2.1 + 1) (kTrA t (kCla b n g6 n6 g m p).2.2.1 (kCla b n g6 n6 g m p).2.2.2.1 (kCla b n g6 n6 g m p).2.2.2.2)
       else [])
    else []
def kReadT (b : Nat → Nat) (n : Nat) (g6 : Nat → Int32) (n6 : Nat) (g : Nat → Int32) (m : Nat) : List kTr := kRdT b n g6 n6 g m 31 0 []
def kRdB (b : Nat → Nat) (n : Nat) (g6 : Nat → Int32) (n6 : Nat) (g : Nat → Int32) (m : Nat) (f q : Nat) (t : List kTr) : List kTr :=
  if kLk b n q = 0 then t else if kLk b n q = 59 then kRdT b n g6 n6 g m f (kSp b n q + 1) t else []
theorem kRdT_t {b : Nat → Nat} {n : Nat} {g6 : Nat → Int32} {n6 : Nat} {g : Nat → Int32} {m f p q j k : Nat} {x : List Int32} {t : List kTr} (h : kCla b n g6 n6 g m p = (true, q, x, j, k)) : kRdT b n g6 n6 g m (f + 1) p t = kRdB b n g6 n6 g m f q (kTrA t x j k) := by
  unfold kRdT
  rw [h]
  rfl
theorem kRdT_f {b : Nat → Nat} {n : Nat} {g6 : Nat → Int32} {n6 : Nat} {g : Nat → Int32} {m f p q j k : Nat} {x : List Int32} {t : List kTr} (h : kCla b n g6 n6 g m p = (false, q, x, j, k)) : kRdT b n g6 n6 g m (f + 1) p t = [] := by
  unfold kRdT
  rw [h]
  rfl
theorem kRdB_0 {b : Nat → Nat} {n : Nat} {g6 : Nat → Int32} {n6 : Nat} {g : Nat → Int32} {m f q : Nat} {t : List kTr} (h : kLk b n q = 0) : kRdB b n g6 n6 g m f q t = t := if_pos h
theorem kRdB_s {b : Nat → Nat} {n : Nat} {g6 : Nat → Int32} {n6 : Nat} {g : Nat → Int32} {m f q : Nat} {t : List kTr} (h : kLk b n q = 59) : kRdB b n g6 n6 g m f q t = kRdT b n g6 n6 g m f (kSp b n q + 1) t := (if_neg (by omega)).trans (if_pos h)
/-- what was read is the list of its clauses -/
theorem kRdL_T {b : Nat → Nat} {n : Nat} {g6 : Nat → Int32} {n6 : Nat} {g : Nat → Int32} {m : Nat} (hm : m ≤ 8) : ∀ (f p q : Nat) (l c x y : List Int32) (t : List kTr), l = kFl t → c = kRw 0 t → (∀ z ∈ t, kGdC n6 m z) → kRdL b n g6 n6 g m f p l c = (true, q, x, y) → x = kFl (kRdT b n g6 n6 g m f p t) ∧ y = kRw 0 (kRdT b n g6 n6 g m f p t) ∧ ∀ z ∈ kRdT b n g6 n6 g m f p t, kGdC n6 m z := by
  intro f
  induction f with
  | zero => intro p q l c x y t _ _ _ h; exact absurd (Prod.mk.inj h).1 (by decide)
  | succ f ih =>
    intro p q l c x y t hl hc ht h
    obtain ⟨o, p2, w, j, k, hK⟩ : ∃ (o : Bool) (p2 : Nat) (w : List Int32) (j k : Nat), kCla b n g6 n6 g m p = (o, p2, w, j, k) := ⟨_, _, _, _, _, rfl⟩
    cases o with
    | false => rw [kRdL_f hK] at h; exact absurd (Prod.mk.inj h).1 (by decide)
    | true =>
      rw [kRdL_t hK] at h
      rw [kRdT_t hK]
      obtain ⟨cc, s, e1, e2, e3, e4, e5, e6⟩ := kCla_i hm hK
      have hT : kTrA t w j k = t ++ [(j, cc, s)] := by
        unfold kTrA
        rw [e1, ← e2, List.take_left, List.drop_left]
      have hl2 : l ++ w = kFl (t ++ [(j, cc, s)]) := by
        rw [kFl_app, ← hl, e1]
        show _ = l ++ (cc ++ s ++ [])
        rw [List.append_nil]
      have hc2 : c ++ [nI j, nI l.length, nI (l.length + k), nI (l.length + w.length)] = kRw 0 (t ++ [(j, cc, s)]) := by
        rw [kRw_app, ← hc, ← hl, Nat.zero_add, e1, ← e2]
        rfl
      have ht2 : ∀ z ∈ t ++ [(j, cc, s)], kGdC n6 m z := by
        intro z hz
        rcases List.mem_append.mp hz with hz | hz
        · exact ht z hz
        · rw [List.mem_singleton.mp hz]; exact ⟨e4, e5, e6⟩
      rw [hT]
      by_cases h0 : kLk b n p2 = 0
      · rw [kRdA_0 h0] at h
        have a1 := Prod.mk.inj (Prod.mk.inj h).2
        have a2 := Prod.mk.inj a1.2
        rw [kRdB_0 h0]
        exact ⟨by rw [← a2.1]; exact hl2, by rw [← a2.2]; exact hc2, ht2⟩
      · by_cases h59 : kLk b n p2 = 59
        · rw [kRdA_s h59] at h
          rw [kRdB_s h59]
          exact ih _ q _ _ x y _ hl2 hc2 ht2 h
        · rw [kRdA_f h0 h59] at h
          exact absurd (Prod.mk.inj h).1 (by decide)
theorem kRead_T {b : Nat → Nat} {n : Nat} {g6 : Nat → Int32} {n6 : Nat} {g : Nat → Int32} {m : Nat} (hm : m ≤ 8) {q : Nat} {x y : List Int32} (h : kRead b n g6 n6 g m = (true, q, x, y)) : x = kFl (kReadT b n g6 n6 g m) ∧ y = kRw 0 (kReadT b n g6 n6 g m) ∧ ∀ z ∈ kReadT b n g6 n6 g m, kGdC n6 m z := kRdL_T hm 31 0 q [] [] x y [] rfl rfl (fun z hz => absurd hz List.not_mem_nil) h
/-- letters that a text doesn't name don't matter -/
theorem kVal_cn {l1 l2 : Nat → Int32} {M : Nat} (hl : ∀ k : Nat, k < M → l1 k = l2 k) {h : Nat} {l : List Int32} (w : kWn M h l) : kVal l1 l = kVal l2 l := by
  refine kWn_ind (P := fun _ l => kVal l1 l = kVal l2 l) ?_ ?_ ?_ w
  · intro v hv; rw [kVal_nn hv, kVal_nn hv]
  · intro k hk h8; rw [kVal_ll h8, kVal_ll h8, hl k hk]
  · intro a b s l m h1 h2 hs i1 i2; rw [kVal_n h1 h2 (by omega) (by omega), kVal_n h1 h2 (by omega) (by omega), i1, i2]
theorem kVal_cb {l1 l2 : Nat → Int32} {M : Nat} (hl : ∀ k : Nat, k < M → l1 k = l2 k) {h : Nat} {l : List Int32} (w : kWb M h l) : kVal l1 l = kVal l2 l := by
  refine kWb_ind (P := fun _ l => kVal l1 l = kVal l2 l) ?_ ?_ ?_ w
  · intro a b s l m h1 h2 hs; rw [kVal_n h1 h2 (by omega) (by omega), kVal_n h1 h2 (by omega) (by omega), kVal_cn hl h1, kVal_cn hl h2]
  · intro a l h1 i1; rw [kVal_not h1, kVal_not h1, i1]
  · intro a b s l m h1 h2 hs i1 i2; rw [kVal_b h1 h2 (by omega) (by omega), kVal_b h1 h2 (by omega) (by omega), i1, i2]
theorem kWoT_c {l1 l2 : Nat → Int32} {N M lab : Nat} (hl : ∀ k : Nat, k < M → l1 k = l2 k) : ∀ t : List kTr, (∀ z ∈ t, kGdC N M z) → kWoT l1 lab t = kWoT l2 lab t := by
  intro t
  induction t with
  | nil => intro _; rfl
  | cons z t ih =>
    intro h
    obtain ⟨j, c, m⟩ := z
    have h0 := h (j, c, m) List.mem_cons_self
    have hm : kVal l1 m = kVal l2 m := by obtain ⟨x, _, hx⟩ := h0.2.2; exact kVal_cn hl hx
    have hc : (c = [] ∨ ¬ kVal l1 c = 0) ↔ (c = [] ∨ ¬ kVal l2 c = 0) := by
      rcases h0.2.1 with e | ⟨x, _, hx⟩
      · have e' : c = [] := e
        exact ⟨fun _ => Or.inl e', fun _ => Or.inl e'⟩
      · have hx' : kVal l1 c = kVal l2 c := kVal_cb hl hx
        rw [hx']
    show (if j = lab ∧ (c = [] ∨ ¬ kVal l1 c = 0) then kVal l1 m else kWoT l1 lab t) = (if j = lab ∧ (c = [] ∨ ¬ kVal l2 c = 0) then kVal l2 m else kWoT l2 lab t)
    rw [ih (fun z hz => h z (List.mem_cons_of_mem _ hz)), hm]
    by_cases q : j = lab ∧ (c = [] ∨ ¬ kVal l1 c = 0)
    · rw [if_pos q, if_pos ⟨q.1, hc.mp q.2⟩]
    · rw [if_neg q, if_neg (fun y => q ⟨y.1, hc.mpr y.2⟩)]
/-- what the reference has found of a text, clause by clause -/
def kFo1 (lt g6 : Nat → Int32) (lb : Int32) (z : kTr) (s : Int32 × Int32) : Int32 × Int32 := if s.2 = 0 ∧ g6 z.1 = lb ∧ (z.2.1 = [] ∨ ¬ kVal lt z.2.1 = 0) then (kVal lt z.2.2, 1) else s
def kFo (lt g6 : Nat → Int32) (lb : Int32) : List kTr → Int32 × Int32 → Int32 × Int32
  | [], s => s
  | z :: r, s => kFo lt g6 lb r (kFo1 lt g6 lb z s)
theorem kFo_app (lt g6 : Nat → Int32) (lb : Int32) (b : List kTr) : ∀ (a : List kTr) (s : Int32 × Int32), kFo lt g6 lb (a ++ b) s = kFo lt g6 lb b (kFo lt g6 lb a s) := by
  intro a
  induction a with
  | nil => intro s; rfl
  | cons z a ih => intro s; exact ih _
theorem kFo_A (lt g6 : Nat → Int32) (lb : Int32) (t : List kTr) (x : List Int32) (j k : Nat) (s : Int32 × Int32) : kFo lt g6 lb (kTrA t x j k) s = kFo1 lt g6 lb (j, x.take k, x.drop k) (kFo lt g6 lb t s) := kFo_app lt g6 lb [(j, x.take k, x.drop k)] t s
theorem kFo_has {lt g6 : Nat → Int32} {lb : Int32} : ∀ (t : List kTr) {s : Int32 × Int32}, ¬ s.2 = 0 → kFo lt g6 lb t s = s := by
  intro t
  induction t with
  | nil => intro s _; rfl
  | cons z t ih =>
    intro s h
    have e : kFo1 lt g6 lb z s = s := if_neg (fun y => h y.1)
    show kFo lt g6 lb t (kFo1 lt g6 lb z s) = s
    rw [e]
    exact ih h
theorem kFo_wo {lt g6 : Nat → Int32} {lb : Int32} {lab : Nat} : ∀ t : List kTr, (∀ z ∈ t, (g6 z.1 = lb ↔ z.1 = lab)) → (kFo lt g6 lb t (0, 0)).1 = kWoT lt lab t := by
  intro t
  induction t with
  | nil => intro _; rfl
  | cons z t ih =>
    intro h
    obtain ⟨j, c, m⟩ := z
    have h0 := h (j, c, m) List.mem_cons_self
    have h1 := ih (fun z hz => h z (List.mem_cons_of_mem _ hz))
    show (kFo lt g6 lb t (kFo1 lt g6 lb (j, c, m) (0, 0))).1 = (if j = lab ∧ (c = [] ∨ ¬ kVal lt c = 0) then kVal lt m else kWoT lt lab t)
    by_cases q : j = lab ∧ (c = [] ∨ ¬ kVal lt c = 0)
    · rw [if_pos q]
      have e : kFo1 lt g6 lb (j, c, m) (0, 0) = (kVal lt m, 1) := if_pos ⟨rfl, h0.mpr q.1, q.2⟩
      rw [e, kFo_has t (by show ¬ (1 : Int32) = 0; decide)]
    · rw [if_neg q]
      have e : kFo1 lt g6 lb (j, c, m) (0, 0) = (0, 0) := if_neg (fun y => q ⟨h0.mp y.2.1, y.2.2⟩)
      rw [e]
      exact h1
/-- a rule's two rows are a list of clauses -/
def kRu (t : List kTr) (M nS nC : Nat) (gS gC : Nat → Int32) : Prop := nS = (kFl t).length ∧ nC = (kRw 0 t).length ∧ (∀ j : Nat, j < nS → gS j = (kFl t).getD j 0) ∧ (∀ j : Nat, j < nC → gC j = (kRw 0 t).getD j 0) ∧ M ≤ 8 ∧ ∀ z ∈ t, kGdC 8 M z
theorem kRw_len : ∀ (t : List kTr) (o : Nat), (kRw o t).length = 4 * t.length := by
  intro t
  induction t with
  | nil => intro o; rfl
  | cons z t ih =>
    intro o
    obtain ⟨j, c, m⟩ := z
    show ([nI j, nI o, nI (o + c.length), nI (o + (c ++ m).length)] ++ kRw (o + (c ++ m).length) t).length = 4 * (t.length + 1)
    rw [List.length_append, ih]
    show 4 + 4 * t.length = _
    omega
theorem kGd_r {a b : List Int32} {i : Nat} : (a ++ b).getD (a.length + i) 0 = b.getD i 0 := by
  rw [List.getD_eq_getElem?_getD, List.getD_eq_getElem?_getD, List.getElem?_append_right (by omega), Nat.add_sub_cancel_left]
theorem kGd_l {a b : List Int32} {i : Nat} (h : i < a.length) : (a ++ b).getD i 0 = a.getD i 0 := by
  rw [List.getD_eq_getElem?_getD, List.getD_eq_getElem?_getD, List.getElem?_append_left h]
theorem kRu_at {t : List kTr} {M nS nC : Nat} {gS gC : Nat → Int32} (h : kRu t M nS nC gS gC) {k : Nat} (hk : k < t.length) : ∃ (j : Nat) (c m : List Int32) (o : Nat), t.drop k = (j, c, m) :: t.drop (k + 1) ∧ gC (4 * k) = nI j ∧ gC (4 * k + 1) = nI o ∧ gC (4 * k + 2) = nI (o + c.length) ∧ gC (4 * k + 3) = nI (o + c.length + m.length) ∧ o + c.length + m.length ≤ nS ∧ (∀ i : Nat, i < c.length → gS (o + i) = c.getD i 0) ∧ (∀ i : Nat, i < m.length → gS (o + c.length + i) = m.getD i 0) ∧ kGdC 8 M (j, c, m) := by
  obtain ⟨e1, e2, hs, hc, _, hg⟩ := h
  have hd := List.drop_eq_getElem_cons hk
  obtain ⟨⟨j, c, m⟩, hz⟩ : ∃ z : kTr, t[k] = z := ⟨_, rfl⟩
  rw [hz] at hd
  have ht : t = t.take k ++ ((j, c, m) :: t.drop (k + 1)) := by rw [← hd, List.take_append_drop]
  have hl : (t.take k).length = k := by rw [List.length_take]; omega
  have hF : kFl t = kFl (t.take k) ++ (c ++ m ++ kFl (t.drop (k + 1))) := by
    have h1 := kFl_app ((j, c, m) :: t.drop (k + 1)) (t.take k)
    rw [← ht] at h1
    exact h1
  have hR : kRw 0 t = kRw 0 (t.take k) ++ ([nI j, nI (kFl (t.take k)).length, nI ((kFl (t.take k)).length + c.length), nI ((kFl (t.take k)).length + (c ++ m).length)] ++ kRw ((kFl (t.take k)).length + (c ++ m).length) (t.drop (k + 1))) := by
    have h1 := kRw_app ((j, c, m) :: t.drop (k + 1)) (t.take k) 0
    rw [← ht, Nat.zero_add] at h1
    exact h1
  have hRl : (kRw 0 (t.take k)).length = 4 * k := by rw [kRw_len, hl]
  have hnC : nC = 4 * t.length := by rw [e2, kRw_len]
  have hC : ∀ i : Nat, i < 4 → gC (4 * k + i) = [nI j, nI (kFl (t.take k)).length, nI ((kFl (t.take k)).length + c.length), nI ((kFl (t.take k)).length + (c ++ m).length)].getD i 0 := by
    intro i hi
    rw [hc _ (by omega), hR, ← hRl, kGd_r, kGd_l (by show i < 4; exact hi)]
  have hFl : (kFl t).length = (kFl (t.take k)).length + (c.length + m.length + (kFl (t.drop (k + 1))).length) := by
    rw [hF]
    simp only [List.length_append]
  refine ⟨j, c, m, (kFl (t.take k)).length, hd, hC 0 (by omega), hC 1 (by omega), hC 2 (by omega), ?_, by omega, ?_, ?_, ?_⟩
  · have h3 := hC 3 (by omega)
    rw [h3]
    show nI ((kFl (t.take k)).length + (c ++ m).length) = _
    rw [List.length_append, Nat.add_assoc]
  · intro i hi
    rw [hs _ (by omega), hF, kGd_r, List.append_assoc, kGd_l hi]
  · intro i hi
    rw [hs _ (by omega), hF, Nat.add_assoc, kGd_r, List.append_assoc, kGd_r, kGd_l hi]
  · exact hg _ (by rw [ht]; exact List.mem_append_right _ List.mem_cons_self)
theorem kHn_fe {lt : Nat → Int32} {M H : Nat} {l : List Int32} (h : kHn M H l) (hH : H ≤ 32) : kFit l 0 ∧ kEv lt l [] = [kVal lt l] := by
  obtain ⟨x, h1, h2⟩ := h
  have h3 := kWn_fit h2 0 [] (by omega) trivial
  rw [List.append_nil] at h3
  exact ⟨h3, kWn_ev h2 []⟩
theorem kHb_fe {lt : Nat → Int32} {M H : Nat} {l : List Int32} (h : kHb M H l) (hH : H ≤ 32) : kFit l 0 ∧ kEv lt l [] = [kVal lt l] := by
  obtain ⟨x, h1, h2⟩ := h
  have h3 := kWb_fit h2 0 [] (by omega) trivial
  rw [List.append_nil] at h3
  exact ⟨h3, kWb_ev h2 []⟩
theorem kWoT_hit {lt : Nat → Int32} {lab k : Nat} {t : List kTr} {j : Nat} {c m : List Int32} {r : List kTr} (hd : t.drop k = (j, c, m) :: r) (h : j = lab ∧ (c = [] ∨ ¬ kVal lt c = 0)) : kWoT lt lab (t.drop k) = kVal lt m := by rw [hd]; exact if_pos h
theorem kWoT_miss {lt : Nat → Int32} {lab k : Nat} {t : List kTr} {j : Nat} {c m : List Int32} {r : List kTr} (hd : t.drop k = (j, c, m) :: r) (h : ¬ (j = lab ∧ (c = [] ∨ ¬ kVal lt c = 0))) : kWoT lt lab (t.drop k) = kWoT lt lab r := by rw [hd]; exact if_neg h
theorem kWrt_get : ∀ (l : List Int32) (k j : Nat) (s : Nat → Int32), j < l.length → kWrt s k l (k + j) = l.getD j 0 := by
  intro l
  have hlow : ∀ (l : List Int32) (k q : Nat) (s : Nat → Int32), q < k → kWrt s k l q = s q := by
    intro l
    induction l with
    | nil => intro k q s _; rfl
    | cons x l ih =>
      intro k q s h
      show kWrt (upd s k x) (k + 1) l q = s q
      rw [ih (k + 1) q _ (by omega), pk_un (by omega)]
  induction l with
  | nil => intro k j s h; exact absurd h (Nat.not_lt_zero j)
  | cons x l ih =>
    intro k j s h
    show kWrt (upd s k x) (k + 1) l (k + j) = _
    cases j with
    | zero =>
      show kWrt (upd s k x) (k + 1) l k = _
      rw [hlow l (k + 1) k _ (by omega), pk_us]
      rfl
    | succ j =>
      rw [show k + (j + 1) = k + 1 + j by omega, ih (k + 1) j _ (by have h9 : j + 1 < l.length + 1 := h; omega)]
      rfl
/-- a rule made of what was read -/
theorem kRu_of {b : Nat → Nat} {n : Nat} {g6 : Nat → Int32} {n6 : Nat} {g : Nat → Int32} {m : Nat} (hm : m ≤ 8) (h6 : n6 ≤ 8) {q : Nat} {x y : List Int32} (h : kRead b n g6 n6 g m = (true, q, x, y)) {nS nC : Nat} {gS gC s1 s2 : Nat → Int32} (hS : nS = x.length) (hC : nC = y.length) (eS : ∀ j : Nat, j < nS → gS j = kWrt s1 0 x j) (eC : ∀ j : Nat, j < nC → gC j = kWrt s2 0 y j) : kRu (kReadT b n g6 n6 g m) m nS nC gS gC := by
  obtain ⟨h1, h2, h3⟩ := kRead_T hm h
  refine ⟨by rw [hS, h1], by rw [hC, h2], ?_, ?_, hm, fun z hz => ⟨Nat.lt_of_lt_of_le (h3 z hz).1 h6, (h3 z hz).2⟩⟩
  · intro j hj
    rw [eS j hj, ← h1]
    have := kWrt_get x 0 j s1 (by omega)
    rw [Nat.zero_add] at this
    exact this
  · intro j hj
    rw [eC j hj, ← h2]
    have := kWrt_get y 0 j s2 (by omega)
    rw [Nat.zero_add] at this
    exact this
theorem kFo1_t {lt g6 : Nat → Int32} {lb : Int32} {z : kTr} {s : Int32 × Int32} (h1 : s.2 = 0) (h2 : g6 z.1 = lb) (h3 : z.2.1 = [] ∨ ¬ kVal lt z.2.1 = 0) : kFo1 lt g6 lb z s = (kVal lt z.2.2, 1) := if_pos ⟨h1, h2, h3⟩
theorem kFo1_h {lt g6 : Nat → Int32} {lb : Int32} {z : kTr} {s : Int32 × Int32} (h : ¬ s.2 = 0) : kFo1 lt g6 lb z s = s := if_neg (fun y => h y.1)
theorem kFo1_l {lt g6 : Nat → Int32} {lb : Int32} {z : kTr} {s : Int32 × Int32} (h : ¬ g6 z.1 = lb) : kFo1 lt g6 lb z s = s := if_neg (fun y => h y.2.1)
theorem kFo1_c {lt g6 : Nat → Int32} {lb : Int32} {z : kTr} {s : Int32 × Int32} (h : ¬ (z.2.1 = [] ∨ ¬ kVal lt z.2.1 = 0)) : kFo1 lt g6 lb z s = s := if_neg (fun y => h y.2.2)
theorem kHb_ne {M H : Nat} {l : List Int32} (h : kHb M H l) : ¬ l = [] := by
  obtain ⟨x, _, w⟩ := h
  refine kWb_ind (P := fun _ l => ¬ l = []) ?_ ?_ ?_ w
  · intro a b s l m _ _ _ e; simp at e
  · intro a l _ _ e; simp at e
  · intro a b s l m _ _ _ _ _ e; simp at e
theorem kValZ {lt : Nat → Int32} {M A H : Nat} {l m : List Int32} (h1 : kHn M A l) (h2 : kHz M H m) : kVal lt (l ++ m) = kVaz lt (kVal lt l) m := by
  obtain ⟨x, _, w1⟩ := h1
  obtain ⟨y, _, w2⟩ := h2
  exact kVal_z w1 w2
