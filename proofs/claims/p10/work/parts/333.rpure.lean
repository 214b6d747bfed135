/-- a byte as the reference keeps it -/
def kSg (v : Nat) : Int32 := if v < 128 then nI v else nI v - 256
/-- the texts that the reference keeps: their bytes are those of a text without a fault, whose clauses are y -/
def kUn (mf2 mf3 : Nat → Int32) (off k : Nat) (g6 : Nat → Int32) (n6 : Nat) (g7 : Nat → Int32) (n7 : Nat) (y : Nat → List kTr) : Prop := ∀ j : Nat, j < k → ∃ (sb : Nat → Nat) (sn : Nat), mf3 (off + j) = nI sn ∧ sn ≤ 120 ∧ (∀ q : Nat, q < sn → mf2 (120 * (off + j) + q) = kSg (sb q)) ∧ (∀ q : Nat, sb q < 256) ∧ (∀ q : Nat, q < sn → 1 ≤ sb q) ∧ (kRead sb sn g6 n6 g7 n7).1 = true ∧ y j = kReadT sb sn g6 n6 g7 n7
/-- one text laid at a place -/
def kTxS (mf1 mf2 mf3 S2 S3 : Nat → Int32) (pl ml : Nat) : Prop := (∀ q : Nat, q < ml → S2 (120 * pl + q) = mf1 q) ∧ (∀ q : Nat, q < 120 * pl ∨ 120 * pl + 120 ≤ q → S2 q = mf2 q) ∧ S3 = upd mf3 pl (nI ml)
def kTxP (c : Nat) (mf1 mf2 mf3 S2 S3 : Nat → Int32) (kl ku ml : Nat) : Prop := (c = 0 ∧ S2 = mf2 ∧ S3 = mf3) ∨ (c = 1 ∧ kTxS mf1 mf2 mf3 S2 S3 kl ml) ∨ (c = 2 ∧ kTxS mf1 mf2 mf3 S2 S3 (6 + ku) ml)
def kUpT (y : Nat → List kTr) (k : Nat) (t : List kTr) : Nat → List kTr := fun j => if j = k then t else y j
theorem kUpT_n {y : Nat → List kTr} {k j : Nat} {t : List kTr} (h : ¬ j = k) : kUpT y k t j = y j := if_neg h
theorem kUpT_s {y : Nat → List kTr} {k : Nat} {t : List kTr} : kUpT y k t k = t := if_pos rfl
theorem kUn_far {mf1 mf2 mf3 S2 S3 : Nat → Int32} {off k pl ml : Nat} {g6 : Nat → Int32} {n6 : Nat} {g7 : Nat → Int32} {n7 : Nat} {y : Nat → List kTr} {t : List kTr} (h : kUn mf2 mf3 off k g6 n6 g7 n7 y) (hS : kTxS mf1 mf2 mf3 S2 S3 pl ml) (hp : ∀ j : Nat, j < k → ¬ off + j = pl) : kUn S2 S3 off k g6 n6 g7 n7 (kUpT y k t) := fun j hj => by
  obtain ⟨sb, sn, h1, h2, h3, h4, h5, h6, h7⟩ := h j hj
  have hne := hp j hj
  refine ⟨sb, sn, ?_, h2, ?_, h4, h5, h6, ?_⟩
  · rw [hS.2.2, pk_un hne]; exact h1
  · intro q hq
    rw [hS.2.1 _ (by omega)]
    exact h3 q hq
  · rw [kUpT_n (by omega)]; exact h7
theorem kUn_same {mf2 mf3 : Nat → Int32} {off k : Nat} {g6 : Nat → Int32} {n6 : Nat} {g7 : Nat → Int32} {n7 : Nat} {y : Nat → List kTr} {t : List kTr} (h : kUn mf2 mf3 off k g6 n6 g7 n7 y) : kUn mf2 mf3 off k g6 n6 g7 n7 (kUpT y k t) := fun j hj => by
  rw [kUpT_n (by omega)]
  exact h j hj
theorem kUn_add {mf1 mf2 mf3 S2 S3 : Nat → Int32} {off k ml : Nat} {g6 : Nat → Int32} {n6 : Nat} {g7 : Nat → Int32} {n7 : Nat} {y : Nat → List kTr} {bt : Nat → Nat} (h : kUn mf2 mf3 off k g6 n6 g7 n7 y) (hS : kTxS mf1 mf2 mf3 S2 S3 (off + k) ml) (hm : ml ≤ 120) (hb : ∀ j : Nat, mf1 j = kSg (bt j)) (h8 : ∀ j : Nat, bt j < 256) (h1 : ∀ j : Nat, j < ml → 1 ≤ bt j) (hr : (kRead bt ml g6 n6 g7 n7).1 = true) : kUn S2 S3 off (k + 1) g6 n6 g7 n7 (kUpT y k (kReadT bt ml g6 n6 g7 n7)) := fun j hj => by
  by_cases z : j = k
  · subst z
    refine ⟨bt, ml, by rw [hS.2.2, pk_us], hm, ?_, h8, h1, hr, kUpT_s⟩
    intro q hq
    rw [hS.1 q hq]
    exact hb q
  · have hf := kUn_far (t := kReadT bt ml g6 n6 g7 n7) h hS (fun j hj => by omega)
    exact hf j (by omega)
/-- what a told text becomes says what was read -/
def kTcS (c : Nat) (o0 o1 : Bool) (kl ku : Nat) : Prop := (c = 1 → o0 = true ∧ kl < 6) ∧ (c = 2 → o1 = true ∧ ku < 8)
theorem kTc_spec {s : Int32} {o0 o1 : Bool} {kl ku : Nat} : kTcS (kTc s o0 o1 kl ku) o0 o1 kl ku := by
  unfold kTcS kTc
  by_cases h0 : s = 0
  · rw [if_pos h0]
    by_cases h1 : kl < 6
    · rw [if_pos h1]
      cases o0 with
      | true => exact ⟨fun _ => ⟨rfl, h1⟩, fun z => absurd z (by decide)⟩
      | false => exact ⟨fun z => absurd z (by decide), fun z => absurd z (by decide)⟩
    · rw [if_neg h1]; exact ⟨fun z => absurd z (by decide), fun z => absurd z (by decide)⟩
  · rw [if_neg h0]
    by_cases h2 : s = 1
    · rw [if_pos h2]
      by_cases h1 : ku < 8
      · rw [if_pos h1]
        cases o1 with
        | true => exact ⟨fun z => absurd z (by decide), fun _ => ⟨rfl, h1⟩⟩
        | false => exact ⟨fun z => absurd z (by decide), fun z => absurd z (by decide)⟩
      · rw [if_neg h1]; exact ⟨fun z => absurd z (by decide), fun z => absurd z (by decide)⟩
    · rw [if_neg h2]; exact ⟨fun z => absurd z (by decide), fun z => absurd z (by decide)⟩
/-- the stored texts after a text -/
theorem kUn_txt {mf1 mf2 mf3 S2 S3 : Nat → Int32} {c kl ku ml : Nat} {bt : Nat → Nat} {xA : Nat → Int32} {nA : Nat} {xB : Nat → Int32} {nB : Nat} {xE : Nat → Int32} {nE : Nat} {xG : Nat → Int32} {nG : Nat} {yL yU : Nat → List kTr} (hl : kUn mf2 mf3 0 kl xA nA xB nB yL) (ht : kUn mf2 mf3 6 ku xE nE xG nG yU) (hP : kTxP c mf1 mf2 mf3 S2 S3 kl ku ml) (hm : ml ≤ 120) (hb : ∀ j : Nat, mf1 j = kSg (bt j)) (h8 : ∀ j : Nat, bt j < 256) (h1 : ∀ j : Nat, j < ml → 1 ≤ bt j) (hc : kTcS c (kRead bt ml xA nA xB nB).1 (kRead bt ml xE nE xG nG).1 kl ku) (hkl : kl ≤ 6) (_hku : ku ≤ 8) : kUn S2 S3 0 (kTcL c kl) xA nA xB nB (kUpT yL kl (kReadT bt ml xA nA xB nB)) ∧ kUn S2 S3 6 (kTcU c ku) xE nE xG nG (kUpT yU ku (kReadT bt ml xE nE xG nG)) := by
  rcases hP with ⟨rfl, e2, e3⟩ | ⟨rfl, hS⟩ | ⟨rfl, hS⟩
  · subst e2; subst e3
    exact ⟨kUn_same hl, kUn_same ht⟩
  · obtain ⟨hr, hk⟩ := hc.1 rfl
    exact ⟨kUn_add hl (by rw [Nat.zero_add]; exact hS) hm hb h8 h1 hr, kUn_far ht hS (fun j _ => by omega)⟩
  · obtain ⟨hr, _⟩ := hc.2 rfl
    exact ⟨kUn_far hl hS (fun j (hj : j < kl) => by omega), kUn_add ht hS hm hb h8 h1 hr⟩

