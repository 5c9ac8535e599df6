/-! THE MEMORY: places instead of addresses (a place is the number of a cell behind the law's start), whole numbers instead of machine ints -/
abbrev xM : Type := Nat → Int → Int
abbrev xR : Type := Nat → Int → Option Nat
abbrev xKs : Type := List (Nat × Nat)
abbrev xE : Type := Launch × va_G × (Nat → ClassId) × Nat × (Nat → Nat) × (Nat → Nat)
def iI (z : Int) : Int32 := Int32.ofInt z
def lL (z : Int) : Int64 := Int64.ofInt z
abbrev rg (z : Int) : Prop := -2147483648 ≤ z ∧ z < 2147483648
theorem iI_toInt {z : Int} (h : rg z) : (iI z).toInt = z := by
  unfold iI
  rw [Int32.toInt_ofInt, show (Int32.size : Nat) = 4294967296 from rfl]
  exact Int.bmod_eq_of_le (by omega) (by omega)
theorem iI_of (x : Int32) : iI x.toInt = x := by simp [iI]
theorem rg_of (x : Int32) : rg x.toInt := ⟨Int32.le_toInt x, Int32.toInt_lt x⟩
theorem iI_add (a b : Int) : iI a + iI b = iI (a + b) := by simp [iI, Int32.ofInt_add]
theorem iI_sub (a b : Int) : iI a - iI b = iI (a - b) := by simp [iI, Int32.ofInt_sub]
theorem iI_mul (a b : Int) : iI a * iI b = iI (a * b) := by simp [iI, Int32.ofInt_mul]
theorem iI_neg (a : Int) : - iI a = iI (-a) := by simp [iI, Int32.ofInt_neg]
theorem iI_lt {a b : Int} (ha : rg a) (hb : rg b) : iI a < iI b ↔ a < b := by rw [Int32.lt_iff_toInt_lt, iI_toInt ha, iI_toInt hb]
theorem iI_le {a b : Int} (ha : rg a) (hb : rg b) : iI a ≤ iI b ↔ a ≤ b := by rw [Int32.le_iff_toInt_le, iI_toInt ha, iI_toInt hb]
theorem iI_eq {a b : Int} (ha : rg a) (hb : rg b) : iI a = iI b ↔ a = b := by
  constructor
  · intro h
    have := congrArg Int32.toInt h
    rwa [iI_toInt ha, iI_toInt hb] at this
  · intro h; rw [h]
theorem iI_0 : iI 0 = 0 := by decide +kernel
theorem iI_clamp {z : Int} (h : 0 ≤ z) (h2 : z < 2147483648) : (iI z).toNatClampNeg = z.toNat := by
  show (iI z).toInt.toNat = _
  rw [iI_toInt ⟨by omega, h2⟩]
theorem iI_in {z : Int} {n : Nat} (h : 0 ≤ z) (h2 : z < n) (hn : n < 2147483648) : ¬ (iI z < 0 ∨ n ≤ (iI z).toNatClampNeg) := by
  rw [iI_clamp h (by omega)]
  rintro (q | q)
  · rw [← iI_0, iI_lt ⟨by omega, by omega⟩ ⟨by decide, by decide⟩] at q
    omega
  · omega
theorem iI_div {a b : Int} (ha : 0 ≤ a) (ha2 : a < 2147483648) (hb : 0 < b) (hb2 : b < 2147483648) : iI a / iI b = iI (a / b) := by
  have h1 : 0 ≤ a / b := Int.ediv_nonneg ha (by omega)
  have h2 : a / b ≤ a := Int.ediv_le_self _ ha
  rw [← Int32.toInt_inj, Int32.toInt_div, iI_toInt ⟨by omega, ha2⟩, iI_toInt ⟨by omega, hb2⟩, iI_toInt ⟨by omega, by omega⟩, Int.tdiv_eq_ediv_of_nonneg ha]
  exact Int.bmod_eq_of_le (by omega) (by omega)
theorem iI_rem {a b : Int} (ha : 0 ≤ a) (ha2 : a < 2147483648) (hb : 0 < b) (hb2 : b < 2147483648) : iI a - iI a / iI b * iI b = iI (a % b) := by
  rw [iI_div ha ha2 hb hb2, iI_mul, iI_sub]
  congr 1
  have := Int.emod_add_mul_ediv a b
  rw [Int.mul_comm] at this
  omega
/-! bits -/
def bAnd (a b : Int) : Int := (iI a &&& iI b).toInt
def bOr (a b : Int) : Int := (iI a ||| iI b).toInt
def bXor (a b : Int) : Int := (iI a ^^^ iI b).toInt
def bShl (a b : Int) : Int := (iI a <<< (iI b &&& 31)).toInt
def bShr (a b : Int) : Int := (iI a >>> (iI b &&& 31)).toInt
theorem iI_and (a b : Int) : iI a &&& iI b = iI (bAnd a b) := (iI_of _).symm
theorem iI_or (a b : Int) : iI a ||| iI b = iI (bOr a b) := (iI_of _).symm
theorem iI_xor (a b : Int) : iI a ^^^ iI b = iI (bXor a b) := (iI_of _).symm
theorem iI_shl (a b : Int) : iI a <<< (iI b &&& 31) = iI (bShl a b) := (iI_of _).symm
theorem iI_shr (a b : Int) : iI a >>> (iI b &&& 31) = iI (bShr a b) := (iI_of _).symm
def bI (P : Prop) [Decidable P] : Int := if P then 1 else 0
/-! values -/
def rv (r : Option Nat) : Value := match r with
  | none => .null
  | some q => .ref q
def xrv (s0 : Nat) (r : Option Nat) : Value := match r with
  | none => .null
  | some q => .ref (s0 + q)
def rn (E : xE) : Value → Value
  | .ref q => .ref (E.2.2.2.1 + q)
  | .float k => .ref (if k.toNat < 64 then E.2.2.2.2.1 k.toNat else E.2.2.2.2.2 (k.toNat - 64))
  | v => v
theorem rn_rv (E : xE) (r : Option Nat) : rn E (rv r) = xrv E.2.2.2.1 r := by cases r <;> rfl
theorem rn_cat (E : xE) (v : Value) : (rn E v).category = v.category := by cases v <;> rfl
/-! memory writes -/
def wr (σ : xM) (p : Nat) (k : Int) (v : Int) : xM := fun q j => if q = p ∧ j = k then v else σ q j
def wq (ρ : xR) (p : Nat) (k : Int) (v : Option Nat) : xR := fun q j => if q = p ∧ j = k then v else ρ q j
theorem wr_eq (σ : xM) (p : Nat) (k v : Int) : wr σ p k v p k = v := by simp [wr]
theorem wr_p (σ : xM) {p q : Nat} (h : q ≠ p) (k v j : Int) : wr σ p k v q j = σ q j := by simp [wr, h]
theorem wr_k (σ : xM) (p q : Nat) {k j : Int} (h : j ≠ k) (v : Int) : wr σ p k v q j = σ q j := by simp [wr, h]
theorem wq_eq (ρ : xR) (p : Nat) (k : Int) (v : Option Nat) : wq ρ p k v p k = v := by simp [wq]
theorem wq_p (ρ : xR) {p q : Nat} (h : q ≠ p) (k j : Int) (v : Option Nat) : wq ρ p k v q j = ρ q j := by simp [wq, h]
theorem wq_k (ρ : xR) (p q : Nat) {k j : Int} (h : j ≠ k) (v : Option Nat) : wq ρ p k v q j = ρ q j := by simp [wq, h]
/-! which field holds what: true for a reference -/
def xIsR (ty : FieldType) : Bool := match ty with
  | .object _ => true
  | .array _ => true
  | _ => false
def xTy (ci : Nat) : Nat → FieldType := match ci with
  | 0 => tyX0
  | 1 => tyX1
  | 2 => tyX2
  | 3 => tyX3
  | 4 => tyX4
  | 5 => tyX5
  | 6 => tyX6
  | 7 => tyX7
  | 8 => tyX8
  | 9 => tyX9
  | 10 => tyX10
  | 11 => tyX11
  | _ => tyX12
def xN (ci : Nat) : Nat := (vwCl.getD ci ("", TX0, 0)).2.2
def xT (ci : Nat) : u_T := (vwCl.getD ci ("", TX0, 0)).2.1
def xC (ci : Nat) : String := (vwCl.getD ci ("", TX0, 0)).1
theorem xCl {ci : Nat} (h : ci < 13) : vwCl[ci]? = some (xC ci, xT ci, xN ci) := by
  rcases ci with _|_|_|_|_|_|_|_|_|_|_|_|_|ci <;> first | rfl | omega
/-- what field k of an object of class ci shows -/
def xfv (E : xE) (ci : Nat) (k : Nat) (z : Int) (r : Option Nat) : Value := if xIsR (xTy ci k) then xrv E.2.2.2.1 r else .int (iI z)
/-- how many slots a cell has -/
def xSl (kd : Nat × Nat) : Nat := match kd with
  | (0, ci) => xN ci
  | (_, n) => n
/-- a cell: kind (0, class), (1, length) ints, (2, length) booleans, (3, length) fans -/
def xAt (E : xE) (H : Heap) (i : Nat) (kd : Nat × Nat) (g : Int → Int) (r : Int → Option Nat) : Prop := match kd with
  | (0, ci) => ci < 13 ∧ t_OB (E.2.2.2.1 + i) (E.2.1.1 ci) (xN ci) (E.2.1.2 ci) H (fun k => xfv E ci k (g k) (r k))
  | (1, n) => H[E.2.2.2.1 + i]? = some (arrV (E.2.2.1 0) n (fun j => .int (iI (g j)))) ∧ n < 2147483648
  | (2, n) => H[E.2.2.2.1 + i]? = some (arrV (E.2.2.1 1) n (fun j => .int (iI (g j)))) ∧ n < 2147483648
  | (_, n) => H[E.2.2.2.1 + i]? = some (arrV (E.2.2.1 2) n (fun j => xrv E.2.2.2.1 (r j))) ∧ n < 2147483648
def xH (E : xE) (σ : xM) (ρ : xR) (ks : xKs) (H : Heap) : Prop := H.size = E.2.2.2.1 + ks.length ∧ ∀ (i : Nat) (kd : Nat × Nat), ks[i]? = some kd → xAt E H i kd (σ i) (ρ i)
theorem xAt.kept {E : xE} {H H1 : Heap} {i : Nat} {kd : Nat × Nat} {g : Int → Int} {r : Int → Option Nat} (h : xAt E H i kd g r) (hq : H1[E.2.2.2.1 + i]? = H[E.2.2.2.1 + i]?) : xAt E H1 i kd g r := by
  obtain ⟨k, n⟩ := kd
  rcases k with _|_|_|k
  · exact ⟨h.1, h.2.kept hq⟩
  · exact ⟨hq.trans h.1, h.2⟩
  · exact ⟨hq.trans h.1, h.2⟩
  · exact ⟨hq.trans h.1, h.2⟩
/-- behind a write into the cell at place i -/
theorem xH.put {E : xE} {σ σ' : xM} {ρ ρ' : xR} {ks : xKs} {H H1 : Heap} {i : Nat} {kd : Nat × Nat} (h : xH E σ ρ ks H) (hi : ks[i]? = some kd) (hz : H1.size = H.size) (ho : ∀ q : Nat, q ≠ E.2.2.2.1 + i → H1[q]? = H[q]?) (hσ : ∀ q : Nat, q ≠ i → σ' q = σ q) (hρ : ∀ q : Nat, q ≠ i → ρ' q = ρ q) (hn : xAt E H1 i kd (σ' i) (ρ' i)) : xH E σ' ρ' ks H1 := by
  refine ⟨hz.trans h.1, fun j kj hj => ?_⟩
  by_cases hji : j = i
  · subst hji
    rw [hi] at hj
    cases hj
    exact hn
  · rw [hσ j hji, hρ j hji]
    exact (h.2 j kj hj).kept (ho _ (by omega))
/-- the words that every method may use -/
def TW : List Cond := lw_tbl.filter goodWord
theorem TW_of {w : Cond} (h : w ∈ lw_tbl) (hg : goodWord w = true) : w ∈ TW := List.mem_filter.mpr ⟨h, hg⟩
theorem TW_good {c1 c2 : Cond} (h : c2 ∈ TW) : GoodIn (c1 :: TW) (c2 :: TW) := by
  intro w hw
  rcases List.mem_cons.mp hw with rfl | hw
  · exact ⟨List.mem_cons_of_mem _ h, good_of_word (List.mem_filter.mp h).2⟩
  · exact ⟨List.mem_cons_of_mem _ hw, good_of_word (List.mem_filter.mp hw).2⟩
/-! the String constants, the nest mates' links -/
def xStr : List (String × Nat × String × Nat) := [(RX4, 85, "hot ", 0), (RX4, 87, "fly ", 1), (RX4, 89, "warm ", 2), (RX4, 91, "cool ", 3), (RX4, 115, "sphrtk", 4), (RX4, 121, "<=>", 5), (RX12, 105, "hot ", 0), (RX12, 111, "fly ", 1), (RX12, 113, "warm ", 2), (RX12, 119, "cool ", 3), (RX12, 87, "sphrtk", 4), (RX12, 93, "<=>", 5)]
def xByt : List (List Int32) := [[104, 111, 116, 32], [102, 108, 121, 32], [119, 97, 114, 109, 32], [99, 111, 111, 108, 32], [115, 112, 104, 114, 116, 107], [60, 61, 62]]
def xLen : List Nat := [4, 4, 5, 5, 6, 3]
def xNest : List (String × Nat × MethodName × String) := [(RX11, 11, yX1_init, RX11), (RX11, 27, yX5_init, RX11), (RX11, 38, yX8_init, RX11), (RX11, 55, yX4_init, RX11), (RX1, 101, yX11_newFan, RX11), (RX1, 23, yX5_init, RX11), (RX1, 30, yX4_init, RX11)]
/-- the classes under Fan; those of them that aren't Told -/
def xSub : List Nat := [2, 3, 6, 7, 9, 10]
def xNot : List Nat := [0, 2, 3, 6, 9, 10]
abbrev xA (E : xE) : Nat → Prop := fun q => E.2.2.2.1 ≤ q
abbrev xTys (E : xE) : List (ClassId × FieldType) := [(E.2.2.1 0, .int), (E.2.2.1 1, .boolean), (E.2.2.1 2, .object RX0)]
def xS (E : xE) (U : State) (H : Heap) : Prop := vk_S 6 xLen xByt E.2.2.2.2.1 E.2.2.2.2.2 (xA E) U H ∧ (∀ q ∈ xStr, vk_R q.1 q.2.1 q.2.2.1 (E.2.2.2.2.1 q.2.2.2) U) ∧ (∀ q ∈ xNest, va_Nw (.methodLinkNest q.1 q.2.1 q.2.2.1 q.2.2.2) U) ∧ va_AO RX0 U ∧ (∀ ci ∈ xSub, va_Nw (.castable (xC ci) RX0) U) ∧ (∀ ci ∈ xNot, va_Nc (xC ci) RX7 U) ∧ va_Z RJ0 "COMPACT_STRINGS" "Z" (.int 1) (xA E) U H ∧ (va_Z RJ3 "SIOOBE_FORMATTER" "Ljava/util/function/BiFunction;" .null (xA E) U H ∨ va_Z RJ3 "SIOOBE_FORMATTER" "Ljava/util/function/BiFunction;" (.ref (E.2.2.2.2.2 63)) (xA E) U H)
def xG (E : xE) (σ : xM) (ρ : xR) (ks : xKs) (U : State) : Prop := xH E σ ρ ks U.heap ∧ va_K E.2.1 vwCl (xTys E) U ∧ xS E U U.heap
/-- what the tables say of a field's link: class own, pool number i, receiver class ci, its field k -/
def xFd (own : String) (i ci k : Nat) : Prop := ci < 13 ∧ k < xN ci ∧ (∃ ref : String, Cond.fieldLink own i ref (xT ci k).2.1 (xT ci k).2.2.1 ∈ TW ∧ (ref = (xT ci k).1 ∨ Cond.sameField ref (xT ci k).1 (xT ci k).2.1 (xT ci k).2.2.1 ∈ TW)) ∧ (∀ w ∈ u_ws (xC ci) (xT ci) (xN ci), w ∈ TW)
/-- a store of one slot at i is in range and breaks no long -/
def xOkS : List (Option Value) → Nat → Bool
  | _ :: _, 0 => true
  | [], _ => false
  | v :: l, 1 => (match v with | some w => w.category == 1 | none => true) && !l.isEmpty
  | _ :: l, k + 2 => xOkS l (k + 1)
