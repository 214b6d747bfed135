/-- what the decoder does behind its first byte -/
def kDcF (p : Nat) : { f : Nat → Jvm.ClassFile.Decoder Jvm.ClassFile.Instr // Jvm.ClassFile.Decoder.instr p = Jvm.ClassFile.Reader.u1 >>= f } := by
  constructor
  case property => delta Jvm.ClassFile.Decoder.instr; exact rfl
theorem kDc_b {α β : Type} {x : Jvm.ClassFile.Decoder α} {g : α → Jvm.ClassFile.Decoder β} {c : ByteArray} {p q : Nat} {a : α} (h : Jvm.ClassFile.Reader.runAt x c p = .ok (a, q)) : Jvm.ClassFile.Reader.runAt (x >>= g) c p = Jvm.ClassFile.Reader.runAt (g a) c q := by
  show (Jvm.ClassFile.Reader.runAt x c p >>= fun z => Jvm.ClassFile.Reader.runAt (g z.1) c z.2) = _
  rw [h]; rfl
theorem kDc_u1 {c : ByteArray} {p : Nat} {b : UInt8} {r : List UInt8} (h : c.data.toList.drop p = b :: r) : Jvm.ClassFile.Reader.runAt (Jvm.ClassFile.Reader.u1 : Jvm.ClassFile.Decoder Nat) c p = .ok (b.toNat, p + 1) := by
  have hsz : p < c.size := by
    have h9 := congrArg List.length h
    simp at h9; omega
  have hl : p < c.data.size := hsz
  have hg : c[p]'hsz = b := by
    have h8 : c.data.toList[p]? = some b := by rw [← List.head?_drop, h]; rfl
    rw [List.getElem?_eq_getElem (by rw [Array.length_toList]; exact hl)] at h8
    have h7 : c.data[p]'hl = b := by simpa using h8
    exact h7
  have e : Jvm.ClassFile.Reader.runAt (Jvm.ClassFile.Reader.u1 : Jvm.ClassFile.Decoder Nat) c p = Jvm.ClassFile.Reader.runAt (dite (p < c.size) (fun h => ((fun _ _ => .ok ((c[p]'h).toNat, p + 1)) : Jvm.ClassFile.Decoder Nat)) (fun _ => ((fun _ _ => .error (.truncated p)) : Jvm.ClassFile.Decoder Nat))) c p := rfl
  rw [e, dif_pos hsz]
  show Except.ok ((c[p]'hsz).toNat, p + 1) = _
  rw [hg]
theorem kDc_dec {c : ByteArray} {p n : Nat} {i : Jvm.ClassFile.Instr} (h : Jvm.ClassFile.Reader.runAt (Jvm.ClassFile.Decoder.instr p) c p = .ok (i, p + n)) : Jvm.ClassFile.decode c p = .ok (i, n) := by
  show (Jvm.ClassFile.Reader.runAt (Jvm.ClassFile.Decoder.instr p) c p >>= fun z => Pure.pure (z.1, z.2 - p)) = _
  rw [h]
  show Except.ok (i, p + n - p) = _
  rw [Nat.add_sub_cancel_left]
theorem kDc_i {c : ByteArray} {p : Nat} {b : UInt8} {r : List UInt8} (h : c.data.toList.drop p = b :: r) : Jvm.ClassFile.Reader.runAt (Jvm.ClassFile.Decoder.instr p) c p = Jvm.ClassFile.Reader.runAt ((kDcF p).1 b.toNat) c (p + 1) := by
  have e2 : Jvm.ClassFile.Decoder.instr p = Jvm.ClassFile.Reader.u1 >>= (kDcF p).1 := (kDcF p).2
  exact (congrArg (fun z => Jvm.ClassFile.Reader.runAt z c p) e2).trans (kDc_b (kDc_u1 h))
theorem kDc_dr {l : List UInt8} {p : Nat} {b : UInt8} {r : List UInt8} (h : l.drop p = b :: r) : l.drop (p + 1) = r := by
  rw [← List.drop_drop, h]; rfl
def kDk0 (o n : Nat) (l : List UInt8) : Bool := match l with
  | b :: _ => Nat.beq b.toNat o && Nat.beq n 1
  | [] => false
def kDk1 (o n v : Nat) (l : List UInt8) : Bool := match l with
  | b :: a :: _ => Nat.beq b.toNat o && (Nat.beq n 2 && Nat.beq a.toNat v)
  | _ => false
def kDk2 (o n v : Nat) (l : List UInt8) : Bool := match l with
  | b :: x :: y :: _ => Nat.beq b.toNat o && (Nat.beq n 3 && Nat.beq (x.toNat * 256 + y.toNat) v)
  | _ => false
def kDk4 (o n : Nat) (v : Int) (l : List UInt8) : Bool := match l with
  | b :: x :: y :: _ => Nat.beq b.toNat o && (Nat.beq n 3 && decide (Jvm.ClassFile.Reader.signed 16 (x.toNat * 256 + y.toNat) = v))
  | _ => false
def kDk5 (o n k : Nat) (v : Int) (l : List UInt8) : Bool := match l with
  | b :: x :: y :: _ => Nat.beq b.toNat o && (Nat.beq n 3 && (Nat.beq x.toNat k && decide (Jvm.ClassFile.Reader.signed 8 y.toNat = v)))
  | _ => false
theorem kDc_u2 {c : ByteArray} {p : Nat} {x y : UInt8} {r : List UInt8} (h : c.data.toList.drop p = x :: y :: r) : Jvm.ClassFile.Reader.runAt (Jvm.ClassFile.Reader.u2 : Jvm.ClassFile.Decoder Nat) c p = .ok (x.toNat * 256 + y.toNat, p + 2) := by
  show Jvm.ClassFile.Reader.runAt (Jvm.ClassFile.Reader.u1 >>= fun hi => Jvm.ClassFile.Reader.u1 >>= fun lo => Pure.pure (hi * 256 + lo)) c p = _
  rw [kDc_b (kDc_u1 h), kDc_b (kDc_u1 (kDc_dr h))]; rfl
theorem kDc_m {c : ByteArray} {p q : Nat} {w : Nat} {r : Jvm.ClassFile.Decoder Nat} {f : Nat → Int} (h : Jvm.ClassFile.Reader.runAt r c p = .ok (w, q)) : Jvm.ClassFile.Reader.runAt (f <$> r) c p = .ok (f w, q) := by
  show (Jvm.ClassFile.Reader.runAt r c p >>= fun z => Pure.pure (f z.1, z.2)) = _
  rw [h]; rfl
theorem kDs0 {o : Nat} {i : Jvm.ClassFile.Instr} (hf : ∀ p, (kDcF p).1 o = Pure.pure i) {c : ByteArray} {p n : Nat} (h : kDk0 o n (c.data.toList.drop p) = true) : Jvm.ClassFile.decode c p = .ok (i, n) := by
  match e : c.data.toList.drop p with
  | [] => rw [e] at h; exact absurd h Bool.false_ne_true
  | b :: r =>
    rw [e] at h
    simp only [kDk0, Bool.and_eq_true, Nat.beq_eq] at h
    obtain ⟨rfl, rfl⟩ := h
    exact kDc_dec ((kDc_i e).trans (by rw [hf]; rfl))
theorem kDs1 {o : Nat} {F : Nat → Jvm.ClassFile.Instr} (hf : ∀ p, (kDcF p).1 o = (Jvm.ClassFile.Reader.u1 >>= fun x => Pure.pure (F x))) {c : ByteArray} {p n v : Nat} (h : kDk1 o n v (c.data.toList.drop p) = true) : Jvm.ClassFile.decode c p = .ok (F v, n) := by
  match e : c.data.toList.drop p with
  | [] => rw [e] at h; exact absurd h Bool.false_ne_true
  | [b] => rw [e] at h; exact absurd h Bool.false_ne_true
  | b :: a :: r =>
    rw [e] at h
    simp only [kDk1, Bool.and_eq_true, Nat.beq_eq] at h
    obtain ⟨rfl, rfl, rfl⟩ := h
    exact kDc_dec ((kDc_i e).trans (by rw [hf, kDc_b (kDc_u1 (kDc_dr e))]; rfl))
theorem kDs2 {o : Nat} {F : Nat → Jvm.ClassFile.Instr} (hf : ∀ p, (kDcF p).1 o = (Jvm.ClassFile.Reader.u2 >>= fun x => Pure.pure (F x))) {c : ByteArray} {p n v : Nat} (h : kDk2 o n v (c.data.toList.drop p) = true) : Jvm.ClassFile.decode c p = .ok (F v, n) := by
  match e : c.data.toList.drop p with
  | [] => rw [e] at h; exact absurd h Bool.false_ne_true
  | [b] => rw [e] at h; exact absurd h Bool.false_ne_true
  | [b, x] => rw [e] at h; exact absurd h Bool.false_ne_true
  | b :: x :: y :: r =>
    rw [e] at h
    simp only [kDk2, Bool.and_eq_true, Nat.beq_eq] at h
    obtain ⟨rfl, rfl, rfl⟩ := h
    exact kDc_dec ((kDc_i e).trans (by rw [hf, kDc_b (kDc_u2 (kDc_dr e))]; rfl))
theorem kDs4 {o : Nat} {F : Int → Jvm.ClassFile.Instr} (hf : ∀ p, (kDcF p).1 o = (Jvm.ClassFile.Reader.s2 >>= fun x => Pure.pure (F x))) {c : ByteArray} {p n : Nat} {v : Int} (h : kDk4 o n v (c.data.toList.drop p) = true) : Jvm.ClassFile.decode c p = .ok (F v, n) := by
  match e : c.data.toList.drop p with
  | [] => rw [e] at h; exact absurd h Bool.false_ne_true
  | [b] => rw [e] at h; exact absurd h Bool.false_ne_true
  | [b, x] => rw [e] at h; exact absurd h Bool.false_ne_true
  | b :: x :: y :: r =>
    rw [e] at h
    simp only [kDk4, Bool.and_eq_true, Nat.beq_eq, decide_eq_true_eq] at h
    obtain ⟨rfl, rfl, rfl⟩ := h
    exact kDc_dec ((kDc_i e).trans (by rw [hf, kDc_b (x := Jvm.ClassFile.Reader.s2) (kDc_m (kDc_u2 (kDc_dr e)))]; rfl))
theorem kDs5 {o : Nat} {F : Nat → Int → Jvm.ClassFile.Instr} (hf : ∀ p, (kDcF p).1 o = (Jvm.ClassFile.Reader.u1 >>= fun x => Jvm.ClassFile.Reader.s1 >>= fun y => Pure.pure (F x y))) {c : ByteArray} {p n k : Nat} {v : Int} (h : kDk5 o n k v (c.data.toList.drop p) = true) : Jvm.ClassFile.decode c p = .ok (F k v, n) := by
  match e : c.data.toList.drop p with
  | [] => rw [e] at h; exact absurd h Bool.false_ne_true
  | [b] => rw [e] at h; exact absurd h Bool.false_ne_true
  | [b, x] => rw [e] at h; exact absurd h Bool.false_ne_true
  | b :: x :: y :: r =>
    rw [e] at h
    simp only [kDk5, Bool.and_eq_true, Nat.beq_eq, decide_eq_true_eq] at h
    obtain ⟨rfl, rfl, rfl, rfl⟩ := h
    exact kDc_dec ((kDc_i e).trans (by rw [hf, kDc_b (kDc_u1 (kDc_dr e)), kDc_b (x := Jvm.ClassFile.Reader.s1) (kDc_m (kDc_u1 (kDc_dr (kDc_dr e))))]; rfl))

