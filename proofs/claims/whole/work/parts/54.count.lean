/-- the class's count of bits, over the numbers -/
def bcN (x : Nat) : Nat :=
  let a := x - (x / 2 ^ 1 &&& 1431655765)
  let b := (a &&& 858993459) + (a / 2 ^ 2 &&& 858993459)
  let c := (b + b / 2 ^ 4) &&& 252645135
  let d := c + c / 2 ^ 8
  let e := d + d / 2 ^ 16
  e &&& 63
def szN1 (x k s : Nat) : Nat := s + (x / 2 ^ k &&& 1)
def szN (x : Nat) : Nat := it (szN1 x) 16 0 0
theorem us_n {n : Nat} (hn : n < 2 ^ 31) {k : Nat} (hk : ((nI k).toUInt32 &&& Int32.toUInt32 31).toBitVec % 32 = BitVec.ofNat 32 k) (hk2 : k < 32) : us (nI n) k = nI (n / 2 ^ k) := by
  unfold us
  refine pk_ushrN (by omega) (nI k) k ?_
  rw [hk, BitVec.toNat_ofNat]
  omega
theorem xBC_n {x : Nat} (h : x < 65536) : xBC (nI x) = nI (bcN x) := by
  have s1 : x / 2 ^ 1 &&& 1431655765 ≤ x := Nat.le_trans Nat.and_le_left (Nat.div_le_self _ _)
  unfold xBC bcN
  simp only [show (1431655765 : Int32) = nI 1431655765 from rfl, show (858993459 : Int32) = nI 858993459 from rfl, show (252645135 : Int32) = nI 252645135 from rfl]
  rw [us_n (k := 1) (by omega) (by decide) (by decide), fa_and, nI_sub s1]
  have ha : x - (x / 2 ^ 1 &&& 1431655765) < 65536 := by omega
  generalize x - (x / 2 ^ 1 &&& 1431655765) = a at *
  rw [us_n (k := 2) (by omega) (by decide) (by decide), fa_and, fa_and, nI_add]
  have b1 : a &&& 858993459 ≤ a := Nat.and_le_left
  have b2 : a / 2 ^ 2 &&& 858993459 ≤ a / 2 ^ 2 := Nat.and_le_left
  have hb : (a &&& 858993459) + (a / 2 ^ 2 &&& 858993459) < 131072 := by omega
  generalize (a &&& 858993459) + (a / 2 ^ 2 &&& 858993459) = b at *
  rw [us_n (k := 4) (by omega) (by decide) (by decide), nI_add, fa_and]
  have c1 : b + b / 2 ^ 4 &&& 252645135 ≤ b + b / 2 ^ 4 := Nat.and_le_left
  have hc : b + b / 2 ^ 4 &&& 252645135 < 262144 := by omega
  generalize b + b / 2 ^ 4 &&& 252645135 = c at *
  rw [us_n (k := 8) (by omega) (by decide) (by decide), nI_add]
  have hd : c + c / 2 ^ 8 < 524288 := by omega
  generalize c + c / 2 ^ 8 = d at *
  rw [us_n (k := 16) (by omega) (by decide) (by decide), nI_add, fa_and]
theorem mSize_n {x : Nat} (h : x < 65536) : mSize (nI x) = nI (szN x) := by
  have key : ∀ k, k < 16 → ((nI k &&& 31).toBitVec.smod 32).toNat = k := by decide
  have e : ∀ (m k s : Nat), k + m ≤ 16 → it (mSize1 (nI x)) m k (nI s) = nI (it (szN1 x) m k s) := fun m => by
    induction m with
    | zero => exact fun k s _ => rfl
    | succ m ih =>
      intro k s hk
      have e1 : mSize1 (nI x) k (nI s) = nI (szN1 x k s) := by
        unfold mSize1 szN1
        rw [pk_shrN (by omega) (nI k &&& 31) k (key k (by omega)), fa_and, nI_add]
      rw [it, it, e1]
      exact ih (k + 1) _ (by omega)
  exact e 16 0 0 (by decide)
theorem bc_0 : ∀ hi, hi < 32 → ∀ lo, lo < 256 → bcN (256 * (hi + 0) + lo) = szN (256 * (hi + 0) + lo) := by decide +kernel
theorem bc_1 : ∀ hi, hi < 32 → ∀ lo, lo < 256 → bcN (256 * (hi + 32) + lo) = szN (256 * (hi + 32) + lo) := by decide +kernel
theorem bc_2 : ∀ hi, hi < 32 → ∀ lo, lo < 256 → bcN (256 * (hi + 64) + lo) = szN (256 * (hi + 64) + lo) := by decide +kernel
theorem bc_3 : ∀ hi, hi < 32 → ∀ lo, lo < 256 → bcN (256 * (hi + 96) + lo) = szN (256 * (hi + 96) + lo) := by decide +kernel
theorem bc_4 : ∀ hi, hi < 32 → ∀ lo, lo < 256 → bcN (256 * (hi + 128) + lo) = szN (256 * (hi + 128) + lo) := by decide +kernel
theorem bc_5 : ∀ hi, hi < 32 → ∀ lo, lo < 256 → bcN (256 * (hi + 160) + lo) = szN (256 * (hi + 160) + lo) := by decide +kernel
theorem bc_6 : ∀ hi, hi < 32 → ∀ lo, lo < 256 → bcN (256 * (hi + 192) + lo) = szN (256 * (hi + 192) + lo) := by decide +kernel
theorem bc_7 : ∀ hi, hi < 32 → ∀ lo, lo < 256 → bcN (256 * (hi + 224) + lo) = szN (256 * (hi + 224) + lo) := by decide +kernel
theorem bc_eq {a : Nat} (h : a < 65536) : xBC (nI a) = mSize (nI a) := by
  rw [xBC_n h, mSize_n h]
  have e : ∀ t, t ≤ a / 256 → 256 * (a / 256 - t + t) + a % 256 = a := fun t ht => by omega
  rcases Nat.lt_or_ge a 8192 with q | h0
  · obtain r := bc_0 (a / 256 - 0) (by omega) (a % 256) (by omega)
    rw [e 0 (by omega)] at r
    rw [r]
  rcases Nat.lt_or_ge a 16384 with q | h1
  · obtain r := bc_1 (a / 256 - 32) (by omega) (a % 256) (by omega)
    rw [e 32 (by omega)] at r
    rw [r]
  rcases Nat.lt_or_ge a 24576 with q | h2
  · obtain r := bc_2 (a / 256 - 64) (by omega) (a % 256) (by omega)
    rw [e 64 (by omega)] at r
    rw [r]
  rcases Nat.lt_or_ge a 32768 with q | h3
  · obtain r := bc_3 (a / 256 - 96) (by omega) (a % 256) (by omega)
    rw [e 96 (by omega)] at r
    rw [r]
  rcases Nat.lt_or_ge a 40960 with q | h4
  · obtain r := bc_4 (a / 256 - 128) (by omega) (a % 256) (by omega)
    rw [e 128 (by omega)] at r
    rw [r]
  rcases Nat.lt_or_ge a 49152 with q | h5
  · obtain r := bc_5 (a / 256 - 160) (by omega) (a % 256) (by omega)
    rw [e 160 (by omega)] at r
    rw [r]
  rcases Nat.lt_or_ge a 57344 with q | h6
  · obtain r := bc_6 (a / 256 - 192) (by omega) (a % 256) (by omega)
    rw [e 192 (by omega)] at r
    rw [r]
  rcases Nat.lt_or_ge a 65536 with q | h7
  · obtain r := bc_7 (a / 256 - 224) (by omega) (a % 256) (by omega)
    rw [e 224 (by omega)] at r
    rw [r]
  omega