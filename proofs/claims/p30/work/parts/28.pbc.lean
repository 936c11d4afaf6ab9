/-! the library's count of bits -/
def tN (x : Int64) : Nat := x.toBitVec.toNat
theorem tN_lt (x : Int64) : tN x < 2 ^ 64 := x.toBitVec.isLt
theorem tN_add (a b : Int64) : tN (a + b) = (tN a + tN b) % 2 ^ 64 := by unfold tN; rw [Int64.toBitVec_add, BitVec.toNat_add]
theorem tN_sub {a b : Int64} (h : tN b ≤ tN a) : tN (a - b) = tN a - tN b := by
  have h1 := tN_lt a
  have h2 := tN_lt b
  unfold tN at *
  rw [Int64.toBitVec_sub, BitVec.toNat_sub]
  omega
theorem tN_and (a b : Int64) : tN (a &&& b) = tN a &&& tN b := by unfold tN; rw [Int64.toBitVec_and, BitVec.toNat_and]
theorem tN_jus {k : Nat} (hk : k < 64) (x : Int64) : tN (jus x (nI k)) = tN x / 2 ^ k := by
  unfold jus tN
  rw [wc_cu k hk]
  show (x.toUInt64 >>> UInt64.ofNat k).toBitVec.toNat = x.toUInt64.toBitVec.toNat / 2 ^ k
  rw [UInt64.toBitVec_shiftRight]
  show (x.toUInt64.toBitVec >>> ((UInt64.ofNat k).toBitVec % 64).toNat).toNat = _
  rw [wc_um k hk, BitVec.toNat_ushiftRight, Nat.shiftRight_eq_div_pow]
theorem land_val {b k a m : Nat} (hb : b < 256) (hk : k < 256) : (b + 256 * a) &&& (k + 256 * m) = (b &&& k) + 256 * (a &&& m) := by
  apply Nat.eq_of_testBit_eq; intro i
  have e : ∀ x y, x < 256 → (x + 256 * y).testBit i = if i < 8 then x.testBit i else y.testBit (i - 8) := fun x y hx => by
    rw [Nat.add_comm]; exact Nat.testBit_two_pow_mul_add (i := 8) y hx i
  rw [Nat.testBit_and, e b a hb, e k m hk, e (b &&& k) (a &&& m) (Nat.lt_of_le_of_lt Nat.and_le_left hb)]
  split <;> rw [Nat.testBit_and]
def bval : List Nat → Nat
  | [] => 0
  | b :: bs => b + 256 * bval bs
def brep (k : Nat) : Nat → Nat
  | 0 => 0
  | n + 1 => k + 256 * brep k n
theorem bv_and (k : Nat) (hk : k < 256) : ∀ bs : List Nat, (∀ b, b ∈ bs → b < 256) → bval bs &&& brep k bs.length = bval (bs.map (fun b => b &&& k))
  | [], _ => Nat.zero_and _
  | b :: bs, h => by
    have ih := bv_and k hk bs (fun c hc => h c (List.mem_cons_of_mem _ hc))
    show (b + 256 * bval bs) &&& (k + 256 * brep k bs.length) = (b &&& k) + 256 * bval (bs.map (fun b => b &&& k))
    rw [land_val (h b (List.mem_cons_self ..)) hk, ih]
theorem bv_sh1 : ∀ bs : List Nat, (∀ b, b ∈ bs → b < 256) → (bval bs / 2) &&& brep 85 bs.length = bval (bs.map (fun b => (b / 2) &&& 85))
  | [], _ => rfl
  | b :: bs, h => by
    have ih := bv_sh1 bs (fun c hc => h c (List.mem_cons_of_mem _ hc))
    have hb := h b (List.mem_cons_self ..)
    have w : ∀ b, b < 256 → ∀ e, e < 2 → (b / 2 + 128 * e) &&& 85 = (b / 2) &&& 85 := by decide +kernel
    show ((b + 256 * bval bs) / 2) &&& (85 + 256 * brep 85 bs.length) = ((b / 2) &&& 85) + 256 * bval (bs.map (fun b => (b / 2) &&& 85))
    have e : (b + 256 * bval bs) / 2 = (b / 2 + 128 * (bval bs % 2)) + 256 * (bval bs / 2) := by omega
    rw [e, land_val (by omega) (by omega), ih, w b hb _ (Nat.mod_lt _ (by omega))]
theorem bv_sh2 : ∀ bs : List Nat, (∀ b, b ∈ bs → b < 256) → (bval bs / 4) &&& brep 51 bs.length = bval (bs.map (fun b => (b / 4) &&& 51))
  | [], _ => rfl
  | b :: bs, h => by
    have ih := bv_sh2 bs (fun c hc => h c (List.mem_cons_of_mem _ hc))
    have hb := h b (List.mem_cons_self ..)
    have w : ∀ b, b < 256 → ∀ e, e < 4 → (b / 4 + 64 * e) &&& 51 = (b / 4) &&& 51 := by decide +kernel
    show ((b + 256 * bval bs) / 4) &&& (51 + 256 * brep 51 bs.length) = ((b / 4) &&& 51) + 256 * bval (bs.map (fun b => (b / 4) &&& 51))
    have e : (b + 256 * bval bs) / 4 = (b / 4 + 64 * (bval bs % 4)) + 256 * (bval bs / 4) := by omega
    rw [e, land_val (by omega) (by omega), ih, w b hb _ (Nat.mod_lt _ (by omega))]
theorem bv_sh4 : ∀ bs : List Nat, (∀ b, b ∈ bs → b ≤ 68 ∧ b % 16 ≤ 4) → (bval bs + bval bs / 16) &&& brep 15 bs.length = bval (bs.map (fun b => (b + b / 16) &&& 15)) ∧ bval bs % 16 ≤ 4
  | [], _ => ⟨rfl, by decide⟩
  | b :: bs, h => by
    obtain ⟨ih, i2⟩ := bv_sh4 bs (fun c hc => h c (List.mem_cons_of_mem _ hc))
    obtain ⟨hb, hb2⟩ := h b (List.mem_cons_self ..)
    have w : ∀ b, b < 69 → ∀ e, e < 5 → (b + b / 16 + 16 * e) &&& 15 = (b + b / 16) &&& 15 := by decide +kernel
    constructor
    · show ((b + 256 * bval bs) + (b + 256 * bval bs) / 16) &&& (15 + 256 * brep 15 bs.length) = ((b + b / 16) &&& 15) + 256 * bval (bs.map (fun b => (b + b / 16) &&& 15))
      have e : (b + 256 * bval bs) + (b + 256 * bval bs) / 16 = (b + b / 16 + 16 * (bval bs % 16)) + 256 * (bval bs + bval bs / 16) := by omega
      rw [e, land_val (by omega) (by omega), ih, w b (by omega) _ (by omega)]
    · show (b + 256 * bval bs) % 16 ≤ 4
      omega
theorem bv_add (f g : Nat → Nat) : ∀ bs : List Nat, bval (bs.map f) + bval (bs.map g) = bval (bs.map (fun b => f b + g b))
  | [] => rfl
  | b :: bs => by
    have ih := bv_add f g bs
    show (f b + 256 * bval (bs.map f)) + (g b + 256 * bval (bs.map g)) = (f b + g b) + 256 * bval (bs.map (fun b => f b + g b))
    omega
theorem bv_sub (f : Nat → Nat) : ∀ bs : List Nat, (∀ b, b ∈ bs → f b ≤ b) → bval bs - bval (bs.map f) = bval (bs.map (fun b => b - f b)) ∧ bval (bs.map f) ≤ bval bs
  | [], _ => ⟨rfl, Nat.le_refl _⟩
  | b :: bs, h => by
    obtain ⟨ih, i2⟩ := bv_sub f bs (fun c hc => h c (List.mem_cons_of_mem _ hc))
    have hb := h b (List.mem_cons_self ..)
    constructor
    · show (b + 256 * bval bs) - (f b + 256 * bval (bs.map f)) = (b - f b) + 256 * bval (bs.map (fun b => b - f b))
      omega
    · show f b + 256 * bval (bs.map f) ≤ b + 256 * bval bs
      omega
def bs1 (b : Nat) : Nat := b - ((b / 2) &&& 85)
def bs2 (b : Nat) : Nat := (bs1 b &&& 51) + ((bs1 b / 4) &&& 51)
def bs3 (b : Nat) : Nat := (bs2 b + bs2 b / 16) &&& 15
theorem bs1_lt : ∀ b, b < 256 → bs1 b < 256 ∧ ((b / 2) &&& 85) ≤ b := by decide +kernel
theorem bs2_le : ∀ b, b < 256 → bs2 b ≤ 68 ∧ bs2 b % 16 ≤ 4 := by decide +kernel
theorem bs3_cnt : ∀ b, b < 256 → bs3 b = cnt (fun i => b.testBit i) 8 := by decide +kernel
theorem bv_pop (bs : List Nat) (h : ∀ b, b ∈ bs → b < 256) (m : Nat) (hm : bs.length = m) :
    (bval bs / 2) &&& brep 85 m ≤ bval bs ∧
    (bval bs - ((bval bs / 2) &&& brep 85 m)) = bval (bs.map bs1) ∧
    (bval (bs.map bs1) &&& brep 51 m) + ((bval (bs.map bs1) / 4) &&& brep 51 m) = bval (bs.map bs2) ∧
    (bval (bs.map bs2) + bval (bs.map bs2) / 16) &&& brep 15 m = bval (bs.map bs3) := by
  subst hm
  have a := bv_sub (fun b => (b / 2) &&& 85) bs (fun b hb => (bs1_lt b (h b hb)).2)
  have h1 : ∀ b, b ∈ bs.map bs1 → b < 256 := fun b hb => by
    obtain ⟨c, hc, rfl⟩ := List.mem_map.mp hb
    exact (bs1_lt c (h c hc)).1
  have h2 : ∀ b, b ∈ bs.map bs2 → b ≤ 68 ∧ b % 16 ≤ 4 := fun b hb => by
    obtain ⟨c, hc, rfl⟩ := List.mem_map.mp hb
    exact bs2_le c (h c hc)
  rw [bv_sh1 bs h]
  refine ⟨a.2, a.1, ?_, ?_⟩
  · have x := bv_and 51 (by omega) (bs.map bs1) h1
    have y := bv_sh2 (bs.map bs1) h1
    rw [List.length_map] at x y
    rw [x, y, List.map_map, List.map_map, bv_add]
    rfl
  · have x := (bv_sh4 (bs.map bs2) h2).1
    rw [List.length_map] at x
    rw [x, List.map_map]
    rfl
theorem bv_cnt : ∀ bs : List Nat, (∀ b, b ∈ bs → b < 256) → cnt (fun i => (bval bs).testBit i) (8 * bs.length) = (bs.map bs3).sum
  | [], _ => rfl
  | b :: bs, h => by
    have ih := bv_cnt bs (fun c hc => h c (List.mem_cons_of_mem _ hc))
    have hb := h b (List.mem_cons_self ..)
    have e : ∀ i, (bval (b :: bs)).testBit i = if i < 8 then b.testBit i else (bval bs).testBit (i - 8) := fun i => by
      show (b + 256 * bval bs).testBit i = _
      rw [Nat.add_comm]; exact Nat.testBit_two_pow_mul_add (i := 8) _ hb i
    have l : 8 * (b :: bs).length = 8 + 8 * bs.length := by rw [List.length_cons]; omega
    rw [l, cnt_add, List.map_cons, List.sum_cons, ← ih, bs3_cnt b hb]
    congr 1
    · exact cnt_cong (fun i hi => by rw [e, if_pos hi])
    · exact cnt_cong (fun i _ => by rw [e, if_neg (by omega), Nat.add_sub_cancel_left])
theorem c_and127 (x : Int64) : (x.toInt32 &&& 127) = nI (tN x % 128) := by
  rw [pk_and x.toInt32 (m := 127) 7 (by decide +kernel)]
  congr 1
  show x.toInt32.toBitVec.toNat % 2 ^ 7 = x.toBitVec.toNat % 128
  have : x.toInt32.toBitVec.toNat = x.toBitVec.toNat % 2 ^ 32 := by
    rw [Int64.toBitVec_toInt32, BitVec.toNat_signExtend, BitVec.toNat_setWidth]
    simp
  rw [this]; omega
theorem dv8 {a V : Nat} (h : a < 256) : (a + 256 * V) / 256 = V := by omega
theorem dv16 {a b V : Nat} (h : a < 256) (h2 : b < 256) : (a + 256 * (b + 256 * V)) / 65536 = V := by
  have e : (65536 : Nat) = 256 * 256 := rfl
  rw [e, ← Nat.div_div_eq_div_mul, dv8 h, dv8 h2]
theorem dv32 {a b c d V : Nat} (h : a < 256) (h2 : b < 256) (h3 : c < 256) (h4 : d < 256) : (a + 256 * (b + 256 * (c + 256 * (d + 256 * V)))) / 4294967296 = V := by
  have e : (4294967296 : Nat) = 65536 * 65536 := rfl
  rw [e, ← Nat.div_div_eq_div_mul, dv16 h h2, dv16 h3 h4]
theorem sw4 {c0 c1 c2 c3 c4 c5 c6 c7 : Nat} : (c0 + 256 * (c1 + 256 * (c2 + 256 * (c3 + 256 * (c4 + 256 * (c5 + 256 * (c6 + 256 * c7))))))) + (c1 + 256 * (c2 + 256 * (c3 + 256 * (c4 + 256 * (c5 + 256 * (c6 + 256 * c7)))))) = (c0 + c1) + 256 * ((c1 + c2) + 256 * ((c2 + c3) + 256 * ((c3 + c4) + 256 * ((c4 + c5) + 256 * ((c5 + c6) + 256 * ((c6 + c7) + 256 * c7)))))) := by omega
theorem sw5 {a0 a1 a2 a3 a4 a5 a6 a7 : Nat} : (a0 + 256 * (a1 + 256 * (a2 + 256 * (a3 + 256 * (a4 + 256 * (a5 + 256 * (a6 + 256 * a7))))))) + (a2 + 256 * (a3 + 256 * (a4 + 256 * (a5 + 256 * (a6 + 256 * a7))))) = (a0 + a2) + 256 * ((a1 + a3) + 256 * ((a2 + a4) + 256 * ((a3 + a5) + 256 * ((a4 + a6) + 256 * ((a5 + a7) + 256 * (a6 + 256 * a7)))))) := by omega
theorem swb {a0 a1 a2 a3 a4 a5 a6 a7 : Nat} (h0 : a0 < 256) (h1 : a1 < 256) (h2 : a2 < 256) (h3 : a3 < 256) (h4 : a4 < 256) (h5 : a5 < 256) (h6 : a6 < 256) (h7 : a7 < 256) : a0 + 256 * (a1 + 256 * (a2 + 256 * (a3 + 256 * (a4 + 256 * (a5 + 256 * (a6 + 256 * a7)))))) < 2 ^ 64 := by omega
theorem sw6 {A B U V y : Nat} (h : A + B < 128) (e : y = (A + 256 * U + (B + 256 * V)) % 2 ^ 64) : y % 128 = A + B := by omega
theorem swar_tail {c0 c1 c2 c3 c4 c5 c6 c7 y3 y4 y5 y6 : Nat} (h0 : c0 ≤ 8) (h1 : c1 ≤ 8) (h2 : c2 ≤ 8) (h3 : c3 ≤ 8) (h4 : c4 ≤ 8) (h5 : c5 ≤ 8) (h6 : c6 ≤ 8) (h7 : c7 ≤ 8)
    (q3 : y3 = c0 + 256 * (c1 + 256 * (c2 + 256 * (c3 + 256 * (c4 + 256 * (c5 + 256 * (c6 + 256 * c7)))))))
    (a4 : y4 = (y3 + y3 / 256) % 2 ^ 64) (a5 : y5 = (y4 + y4 / 65536) % 2 ^ 64) (a6 : y6 = (y5 + y5 / 4294967296) % 2 ^ 64) : y6 % 128 = c0 + c1 + c2 + c3 + c4 + c5 + c6 + c7 := by
  rw [q3, dv8 (by clear q3 a4 a5 a6; omega), sw4, Nat.mod_eq_of_lt (by clear q3 a4 a5 a6; exact swb (by omega) (by omega) (by omega) (by omega) (by omega) (by omega) (by omega) (by omega))] at a4
  rw [a4, dv16 (by clear q3 a4 a5 a6; omega) (by clear q3 a4 a5 a6; omega), sw5, Nat.mod_eq_of_lt (by clear q3 a4 a5 a6; exact swb (by omega) (by omega) (by omega) (by omega) (by omega) (by omega) (by omega) (by omega))] at a5
  rw [a5, dv32 (by clear q3 a4 a5 a6; omega) (by clear q3 a4 a5 a6; omega) (by clear q3 a4 a5 a6; omega) (by clear q3 a4 a5 a6; omega)] at a6
  rw [sw6 (by clear q3 a4 a5 a6; omega) a6]
  clear q3 a4 a5 a6
  omega
theorem bc_eq (x : Int64) : f_J13_bitCount_95d88 x = nI (cnt (gb x) 64) := by
  have hx := tN_lt x
  obtain ⟨bs, hl, hb, hv⟩ : ∃ bs : List Nat, bs.length = 8 ∧ (∀ b, b ∈ bs → b < 256) ∧ bval bs = tN x := by
    generalize tN x = X at hx
    refine ⟨[X % 256, X / 256 % 256, X / 65536 % 256, X / 16777216 % 256, X / 4294967296 % 256, X / 1099511627776 % 256, X / 281474976710656 % 256, X / 72057594037927936 % 256], rfl, ?_, ?_⟩
    · intro b hb
      simp only [List.mem_cons, List.not_mem_nil, or_false] at hb
      rcases hb with rfl | rfl | rfl | rfl | rfl | rfl | rfl | rfl <;> exact Nat.mod_lt _ (by omega)
    · show _ % 256 + 256 * (_ % 256 + 256 * (_ % 256 + 256 * (_ % 256 + 256 * (_ % 256 + 256 * (_ % 256 + 256 * (_ % 256 + 256 * (_ % 256 + 256 * 0))))))) = X
      omega
  obtain ⟨p0, p1, p2, p3⟩ := bv_pop bs hb 8 hl
  have pc := bv_cnt bs hb
  rw [hl, hv] at pc
  rw [hv] at p0 p1
  have m1 : tN 6148914691236517205 = brep 85 8 := by decide +kernel
  have m2 : tN 3689348814741910323 = brep 51 8 := by decide +kernel
  have m3 : tN 1085102592571150095 = brep 15 8 := by decide +kernel
  have k1 : tN ((jus x 1) &&& 6148914691236517205) = (tN x / 2) &&& brep 85 8 := by
    rw [tN_and, m1, show tN (jus x 1) = tN x / 2 from tN_jus (k := 1) (by omega) x]
  have q1 : tN (x - ((jus x 1) &&& 6148914691236517205)) = bval (bs.map bs1) := by
    rw [tN_sub (by rw [k1]; exact p0), k1, p1]
  simp only [f_J13_bitCount_95d88, lt_]
  generalize x - ((jus x 1) &&& 6148914691236517205) = y1 at q1 ⊢
  have b2 : ∀ b, b ∈ bs.map bs2 → b ≤ 68 := fun b hb2 => by
    obtain ⟨c, hc, rfl⟩ := List.mem_map.mp hb2
    exact (bs2_le c (hb c hc)).1
  have b3 : ∀ b, b ∈ bs.map bs3 → b ≤ 8 := fun b hb2 => by
    obtain ⟨c, hc, rfl⟩ := List.mem_map.mp hb2
    rw [bs3_cnt c (hb c hc)]; exact cnt_le _ 8
  have small : bval (bs.map bs2) < 2 ^ 63 := by
    have l2 : (bs.map bs2).length = 8 := by rw [List.length_map, hl]
    revert b2 l2
    generalize bs.map bs2 = L
    intro b2 l2
    match L, l2 with
    | [a0, a1, a2, a3, a4, a5, a6, a7], _ =>
      have c0 := b2 a0 (by simp)
      have c1 := b2 a1 (by simp)
      have c2 := b2 a2 (by simp)
      have c3 := b2 a3 (by simp)
      have c4 := b2 a4 (by simp)
      have c5 := b2 a5 (by simp)
      have c6 := b2 a6 (by simp)
      have c7 := b2 a7 (by simp)
      show a0 + 256 * (a1 + 256 * (a2 + 256 * (a3 + 256 * (a4 + 256 * (a5 + 256 * (a6 + 256 * (a7 + 256 * 0))))))) < 2 ^ 63
      omega
  have q2 : tN ((y1 &&& 3689348814741910323) + ((jus y1 2) &&& 3689348814741910323)) = bval (bs.map bs2) := by
    rw [tN_add, tN_and, tN_and, m2, q1, show tN (jus y1 2) = tN y1 / 4 from tN_jus (k := 2) (by omega) y1, q1, p2]
    omega
  generalize (y1 &&& 3689348814741910323) + ((jus y1 2) &&& 3689348814741910323) = y2 at q2 ⊢
  have q3 : tN ((y2 + (jus y2 4)) &&& 1085102592571150095) = bval (bs.map bs3) := by
    rw [tN_and, tN_add, m3, show tN (jus y2 4) = tN y2 / 16 from tN_jus (k := 4) (by omega) y2, q2, ← p3]
    congr 1
    omega
  generalize (y2 + (jus y2 4)) &&& 1085102592571150095 = y3 at q3 ⊢
  have a4 : tN (y3 + jus y3 8) = (tN y3 + tN y3 / 256) % 2 ^ 64 := by
    rw [tN_add, show tN (jus y3 8) = tN y3 / 256 from tN_jus (k := 8) (by omega) y3]
  generalize y3 + jus y3 8 = y4 at a4 ⊢
  have a5 : tN (y4 + jus y4 16) = (tN y4 + tN y4 / 65536) % 2 ^ 64 := by
    rw [tN_add, show tN (jus y4 16) = tN y4 / 65536 from tN_jus (k := 16) (by omega) y4]
  generalize y4 + jus y4 16 = y5 at a5 ⊢
  have a6 : tN (y5 + jus y5 32) = (tN y5 + tN y5 / 4294967296) % 2 ^ 64 := by
    rw [tN_add, show tN (jus y5 32) = tN y5 / 4294967296 from tN_jus (k := 32) (by omega) y5]
  rw [c_and127, a6, show cnt (gb x) 64 = (bs.map bs3).sum from pc]
  congr 1
  have l3 : (bs.map bs3).length = 8 := by rw [List.length_map, hl]
  revert b3 l3 q3
  generalize bs.map bs3 = L
  intro b3 q3 l3
  match L, l3 with
  | [c0, c1, c2, c3, c4, c5, c6, c7], _ =>
    have h0 := b3 c0 (by simp)
    have h1 := b3 c1 (by simp)
    have h2 := b3 c2 (by simp)
    have h3 := b3 c3 (by simp)
    have h4 := b3 c4 (by simp)
    have h5 := b3 c5 (by simp)
    have h6 := b3 c6 (by simp)
    have h7 := b3 c7 (by simp)
    have s : [c0, c1, c2, c3, c4, c5, c6, c7].sum = c0 + c1 + c2 + c3 + c4 + c5 + c6 + c7 := by simp [Nat.add_assoc]
    rw [s]
    have q3 : tN y3 = c0 + 256 * (c1 + 256 * (c2 + 256 * (c3 + 256 * (c4 + 256 * (c5 + 256 * (c6 + 256 * (c7 + 256 * 0))))))) := q3
    exact swar_tail h0 h1 h2 h3 h4 h5 h6 h7 (by rw [q3]; rfl) a4 a5 rfl

