/-! ===== decode rows by the bytes as one number: one evaluation a method, a division a row ===== -/
noncomputable def en8 : List UInt8 → Nat
  | [] => 0
  | b :: r => b.toNat + 256 * en8 r
noncomputable def ck8 (L : List UInt8) : Nat → Nat → Bool :=
  @List.rec UInt8 (fun _ => Nat → Nat → Bool) (fun n s => and (Nat.beq n 0) (Nat.beq s 0)) (fun b _ ih n s => and (Nat.beq (Nat.mod n 256) b.toNat) (and (Nat.ble 1 s) (ih (Nat.div n 256) (Nat.sub s 1)))) L
theorem ck8_cons {b : UInt8} {r : List UInt8} {n s : Nat} : ck8 (b :: r) n s = and (Nat.beq (Nat.mod n 256) b.toNat) (and (Nat.ble 1 s) (ck8 r (Nat.div n 256) (Nat.sub s 1))) := rfl
theorem ck8_ok : ∀ (L : List UInt8) (n s : Nat), ck8 L n s = true → en8 L = n ∧ L.length = s
  | [], n, s, h => by
    have h2 : and (Nat.beq n 0) (Nat.beq s 0) = true := h
    rw [Bool.and_eq_true] at h2
    exact ⟨(Nat.eq_of_beq_eq_true h2.1).symm, (Nat.eq_of_beq_eq_true h2.2).symm⟩
  | b :: r, n, s, h => by
    rw [ck8_cons, Bool.and_eq_true, Bool.and_eq_true] at h
    obtain ⟨h1, h2, h3⟩ := h
    have e1 : n % 256 = b.toNat := Nat.eq_of_beq_eq_true h1
    have e2 : 1 ≤ s := Nat.le_of_ble_eq_true h2
    obtain ⟨e3, e4⟩ := ck8_ok r (n / 256) (s - 1) h3
    refine ⟨?_, ?_⟩
    · show b.toNat + 256 * en8 r = n
      rw [e3]
      omega
    · show r.length + 1 = s
      rw [e4]
      omega
noncomputable def by8 (N i : Nat) : Nat := Nat.mod (Nat.shiftRight N (Nat.mul 8 i)) 256
theorem en8_get : ∀ (L : List UInt8) (i : Nat) (h : i < L.length), by8 (en8 L) i = (L[i]'h).toNat
  | [], i, h => absurd h (Nat.not_lt_zero i)
  | b :: r, 0, h => by
    have hb : b.toNat < 256 := b.toNat_lt
    show ((b.toNat + 256 * en8 r) >>> (8 * 0)) % 256 = b.toNat
    rw [Nat.mul_zero, Nat.shiftRight_zero]
    omega
  | b :: r, i + 1, h => by
    have hb : b.toNat < 256 := b.toNat_lt
    have h2 : i < r.length := Nat.lt_of_succ_lt_succ h
    have e2 : (b.toNat + 256 * en8 r) / 2 ^ 8 = en8 r := by
      rw [show (2 : Nat) ^ 8 = 256 from rfl]
      omega
    have e : (b.toNat + 256 * en8 r) >>> (8 * (i + 1)) = en8 r >>> (8 * i) := by
      rw [show 8 * (i + 1) = 8 + 8 * i by omega, Nat.shiftRight_add, Nat.shiftRight_eq_div_pow _ 8, e2]
    show ((b.toNat + 256 * en8 r) >>> (8 * (i + 1))) % 256 = (r[i]'h2).toNat
    rw [e]
    exact en8_get r i h2
/-- the bytes of c, as one number, and how many they are -/
noncomputable def BY (c : ByteArray) (N S : Nat) : Prop := en8 c.data.toList = N ∧ c.data.toList.length = S
theorem by_of {c : ByteArray} {N S : Nat} (h : ck8 c.data.toList N S = true) : BY c N S := ck8_ok _ _ _ h
theorem by_get {c : ByteArray} {N S i : Nat} (H : BY c N S) (h1 : i < S) : ∃ h : i < c.size, (c[i]'h).toNat = by8 N i := by
  obtain ⟨⟨L⟩⟩ := c
  obtain ⟨e1, e2⟩ := H
  have h2 : i < L.length := by rw [← e2] at h1; exact h1
  refine ⟨h2, ?_⟩
  rw [← e1]
  exact (en8_get L i h2).symm
noncomputable abbrev DecM : Type → Type := Jvm.ClassFile.Decoder
theorem e_bind {ε α β : Type} {x : Except ε α} {a : α} (h : x = .ok a) (F : α → Except ε β) : Except.bind x F = F a := by rw [h]; rfl
theorem r_bind {α β : Type} {m : DecM α} {f : α → DecM β} {c : ByteArray} {p : Nat} {a : α} {p' : Nat} (h : m c p = .ok (a, p')) : (m >>= f) c p = f a c p' := e_bind h (fun q => f q.1 c q.2)
theorem r_map {α β : Type} {m : DecM α} {f : α → β} {c : ByteArray} {p : Nat} {a : α} {p' : Nat} (h : m c p = .ok (a, p')) : (f <$> m) c p = .ok (f a, p') := e_bind h (fun q => .ok (f q.1, q.2))
theorem u1_run {c : ByteArray} {p : Nat} (h : p < c.size) : (Jvm.ClassFile.Reader.u1 : DecM Nat) c p = .ok ((c[p]'h).toNat, p + 1) := by
  show (dite (p < c.size) (fun h => (do set (p + 1); pure (c[p]'h).toNat : DecM Nat)) (fun _ => throw (Jvm.ClassFile.HasTruncated.truncated p))) c p = _
  rw [dif_pos h]
  rfl
theorem rd1 {c : ByteArray} {N S i : Nat} (H : BY c N S) (h1 : i < S) : (Jvm.ClassFile.Reader.u1 : DecM Nat) c i = .ok (by8 N i, i + 1) := by
  obtain ⟨h, e⟩ := by_get H h1
  rw [u1_run h, e]
theorem rd2 {c : ByteArray} {N S i : Nat} (H : BY c N S) (h1 : i + 1 < S) : (Jvm.ClassFile.Reader.u2 : DecM Nat) c i = .ok (by8 N i * 256 + by8 N (i + 1), i + 2) :=
  (r_bind (rd1 H (Nat.lt_of_succ_lt h1))).trans ((r_bind (rd1 H h1)).trans rfl)
theorem dec_run {c : ByteArray} {pc n k : Nat} {I : Instr} (h : (Jvm.ClassFile.Decoder.instr pc) c pc = .ok (I, n)) (hk : n - pc = k) : decode c pc = .ok (I, k) := by
  show Except.bind ((Jvm.ClassFile.Decoder.instr pc) c pc) (fun q => .ok (q.1, q.2 - pc)) = _
  rw [h, ← hk]
  rfl
noncomputable abbrev U1 (c : ByteArray) (p v : Nat) : Prop := (Jvm.ClassFile.Reader.u1 : DecM Nat) c p = .ok (v, p + 1)
noncomputable abbrev U2 (c : ByteArray) (p v : Nat) : Prop := (Jvm.ClassFile.Reader.u2 : DecM Nat) c p = .ok (v, p + 2)
noncomputable abbrev IN (c : ByteArray) (pc : Nat) (I : Instr) (n : Nat) : Prop := (Jvm.ClassFile.Decoder.instr pc) c pc = .ok (I, pc + n)
noncomputable abbrev K1 (N S pc op : Nat) : Prop := and (Nat.ble (pc + 1) S) (Nat.beq (by8 N pc) op) = true
noncomputable abbrev K2 (N S pc op v : Nat) : Prop := and (Nat.ble (pc + 2) S) (and (Nat.beq (by8 N pc) op) (Nat.beq (by8 N (pc + 1)) v)) = true
noncomputable abbrev K3 (N S pc op v : Nat) : Prop := and (Nat.ble (pc + 3) S) (and (Nat.beq (by8 N pc) op) (Nat.beq (Nat.add (Nat.mul (by8 N (pc + 1)) 256) (by8 N (pc + 2))) v)) = true
noncomputable abbrev K4 (N S pc op a v : Nat) : Prop := and (Nat.ble (pc + 3) S) (and (Nat.beq (by8 N pc) op) (and (Nat.beq (by8 N (pc + 1)) a) (Nat.beq (by8 N (pc + 2)) v))) = true
/-- no operand; a byte; two bytes -/
theorem q1 {op : Nat} {I : Instr} (J : ∀ c pc, U1 c pc op → IN c pc I 1) {c : ByteArray} {pc N S : Nat} (H : BY c N S) (k : K1 N S pc op) : decode c pc = .ok (I, 1) := by
  unfold K1 at k
  rw [Bool.and_eq_true] at k
  have h1 : pc < S := Nat.le_of_ble_eq_true k.1
  have h2 := Nat.eq_of_beq_eq_true k.2
  exact dec_run (J c pc (by rw [← h2]; exact rd1 H h1)) (by omega)
theorem q2 {op : Nat} {F : Nat → Instr} (J : ∀ c pc v, U1 c pc op → U1 c (pc + 1) v → IN c pc (F v) 2) {v : Nat} {c : ByteArray} {pc N S : Nat} (H : BY c N S) (k : K2 N S pc op v) : decode c pc = .ok (F v, 2) := by
  unfold K2 at k
  rw [Bool.and_eq_true, Bool.and_eq_true] at k
  have h1 : pc + 1 < S := Nat.le_of_ble_eq_true k.1
  have h2 := Nat.eq_of_beq_eq_true k.2.1
  have h3 := Nat.eq_of_beq_eq_true k.2.2
  exact dec_run (J c pc v (by rw [← h2]; exact rd1 H (by omega)) (by rw [← h3]; exact rd1 H h1)) (by omega)
theorem q3 {op : Nat} {F : Nat → Instr} (J : ∀ c pc v, U1 c pc op → U2 c (pc + 1) v → IN c pc (F v) 3) {v : Nat} {c : ByteArray} {pc N S : Nat} (H : BY c N S) (k : K3 N S pc op v) : decode c pc = .ok (F v, 3) := by
  unfold K3 at k
  rw [Bool.and_eq_true, Bool.and_eq_true] at k
  have h1 : pc + 2 < S := Nat.le_of_ble_eq_true k.1
  have h2 := Nat.eq_of_beq_eq_true k.2.1
  have h3 : by8 N (pc + 1) * 256 + by8 N (pc + 2) = v := Nat.eq_of_beq_eq_true k.2.2
  exact dec_run (J c pc v (by rw [← h2]; exact rd1 H (by omega)) (by rw [← h3]; exact rd2 H h1)) (by omega)
/-- a number with a sign, of one byte, of two -/
theorem q2s {op : Nat} {F : Int → Instr} (J : ∀ c pc v, U1 c pc op → U1 c (pc + 1) v → IN c pc (F (Jvm.ClassFile.Reader.signed 8 v)) 2) (v : Nat) {w : Int} {c : ByteArray} {pc N S : Nat} (H : BY c N S) (k : K2 N S pc op v) (e : Jvm.ClassFile.Reader.signed 8 v = w) : decode c pc = .ok (F w, 2) := by
  rw [← e]
  exact q2 (F := fun v => F (Jvm.ClassFile.Reader.signed 8 v)) J H k
theorem q3s {op : Nat} {F : Int → Instr} (J : ∀ c pc v, U1 c pc op → U2 c (pc + 1) v → IN c pc (F (Jvm.ClassFile.Reader.signed 16 v)) 3) (v : Nat) {w : Int} {c : ByteArray} {pc N S : Nat} (H : BY c N S) (k : K3 N S pc op v) (e : Jvm.ClassFile.Reader.signed 16 v = w) : decode c pc = .ok (F w, 3) := by
  rw [← e]
  exact q3 (F := fun v => F (Jvm.ClassFile.Reader.signed 16 v)) J H k
/-- iinc; newarray -/
theorem q_iinc (J : ∀ c pc a v, U1 c pc 132 → U1 c (pc + 1) a → U1 c (pc + 2) v → IN c pc (.iinc a (Jvm.ClassFile.Reader.signed 8 v)) 3) (v : Nat) {a : Nat} {w : Int} {c : ByteArray} {pc N S : Nat} (H : BY c N S) (k : K4 N S pc 132 a v) (e : Jvm.ClassFile.Reader.signed 8 v = w) : decode c pc = .ok (.iinc a w, 3) := by
  unfold K4 at k
  rw [Bool.and_eq_true, Bool.and_eq_true, Bool.and_eq_true] at k
  have h1 : pc + 2 < S := Nat.le_of_ble_eq_true k.1
  have h2 := Nat.eq_of_beq_eq_true k.2.1
  have h3 := Nat.eq_of_beq_eq_true k.2.2.1
  have h4 := Nat.eq_of_beq_eq_true k.2.2.2
  rw [← e]
  exact dec_run (J c pc a v (by rw [← h2]; exact rd1 H (by omega)) (by rw [← h3]; exact rd1 H (by omega)) (by rw [← h4]; exact rd1 H h1)) (by omega)
theorem q_na {b : Nat} {I : Instr} (J : ∀ c pc, U1 c pc 188 → U1 c (pc + 1) b → IN c pc I 2) {c : ByteArray} {pc N S : Nat} (H : BY c N S) (k : K2 N S pc 188 b) : decode c pc = .ok (I, 2) := by
  unfold K2 at k
  rw [Bool.and_eq_true, Bool.and_eq_true] at k
  have h1 : pc + 1 < S := Nat.le_of_ble_eq_true k.1
  have h2 := Nat.eq_of_beq_eq_true k.2.1
  have h3 := Nat.eq_of_beq_eq_true k.2.2
  exact dec_run (J c pc (by rw [← h2]; exact rd1 H (by omega)) (by rw [← h3]; exact rd1 H h1)) (by omega)
theorem j_2 (c : ByteArray) (pc : Nat) (h : U1 c pc 2) : IN c pc (.iconst (-1)) 1 := by
  unfold IN Jvm.ClassFile.Decoder.instr
  exact (r_bind h).trans rfl
theorem g_2 {c : ByteArray} {pc N S : Nat} (H : BY c N S) (k : K1 N S pc 2) : decode c pc = .ok (.iconst (-1), 1) := q1 j_2 H k
theorem j_3 (c : ByteArray) (pc : Nat) (h : U1 c pc 3) : IN c pc (.iconst 0) 1 := by
  unfold IN Jvm.ClassFile.Decoder.instr
  exact (r_bind h).trans rfl
theorem g_3 {c : ByteArray} {pc N S : Nat} (H : BY c N S) (k : K1 N S pc 3) : decode c pc = .ok (.iconst 0, 1) := q1 j_3 H k
theorem j_4 (c : ByteArray) (pc : Nat) (h : U1 c pc 4) : IN c pc (.iconst 1) 1 := by
  unfold IN Jvm.ClassFile.Decoder.instr
  exact (r_bind h).trans rfl
theorem g_4 {c : ByteArray} {pc N S : Nat} (H : BY c N S) (k : K1 N S pc 4) : decode c pc = .ok (.iconst 1, 1) := q1 j_4 H k
theorem j_5 (c : ByteArray) (pc : Nat) (h : U1 c pc 5) : IN c pc (.iconst 2) 1 := by
  unfold IN Jvm.ClassFile.Decoder.instr
  exact (r_bind h).trans rfl
theorem g_5 {c : ByteArray} {pc N S : Nat} (H : BY c N S) (k : K1 N S pc 5) : decode c pc = .ok (.iconst 2, 1) := q1 j_5 H k
theorem j_6 (c : ByteArray) (pc : Nat) (h : U1 c pc 6) : IN c pc (.iconst 3) 1 := by
  unfold IN Jvm.ClassFile.Decoder.instr
  exact (r_bind h).trans rfl
theorem g_6 {c : ByteArray} {pc N S : Nat} (H : BY c N S) (k : K1 N S pc 6) : decode c pc = .ok (.iconst 3, 1) := q1 j_6 H k
theorem j_7 (c : ByteArray) (pc : Nat) (h : U1 c pc 7) : IN c pc (.iconst 4) 1 := by
  unfold IN Jvm.ClassFile.Decoder.instr
  exact (r_bind h).trans rfl
theorem g_7 {c : ByteArray} {pc N S : Nat} (H : BY c N S) (k : K1 N S pc 7) : decode c pc = .ok (.iconst 4, 1) := q1 j_7 H k
theorem j_8 (c : ByteArray) (pc : Nat) (h : U1 c pc 8) : IN c pc (.iconst 5) 1 := by
  unfold IN Jvm.ClassFile.Decoder.instr
  exact (r_bind h).trans rfl
theorem g_8 {c : ByteArray} {pc N S : Nat} (H : BY c N S) (k : K1 N S pc 8) : decode c pc = .ok (.iconst 5, 1) := q1 j_8 H k
theorem j_9 (c : ByteArray) (pc : Nat) (h : U1 c pc 9) : IN c pc (.lconst 0) 1 := by
  unfold IN Jvm.ClassFile.Decoder.instr
  exact (r_bind h).trans rfl
theorem g_9 {c : ByteArray} {pc N S : Nat} (H : BY c N S) (k : K1 N S pc 9) : decode c pc = .ok (.lconst 0, 1) := q1 j_9 H k
theorem j_10 (c : ByteArray) (pc : Nat) (h : U1 c pc 10) : IN c pc (.lconst 1) 1 := by
  unfold IN Jvm.ClassFile.Decoder.instr
  exact (r_bind h).trans rfl
theorem g_10 {c : ByteArray} {pc N S : Nat} (H : BY c N S) (k : K1 N S pc 10) : decode c pc = .ok (.lconst 1, 1) := q1 j_10 H k
theorem j_16 (c : ByteArray) (pc v : Nat) (h : U1 c pc 16) (h2 : U1 c (pc + 1) v) : IN c pc (.bipush (Jvm.ClassFile.Reader.signed 8 v)) 2 := by
  unfold IN Jvm.ClassFile.Decoder.instr
  exact (r_bind h).trans ((r_bind (r_map h2)).trans rfl)
theorem g_16 (v : Nat) {w : Int} {c : ByteArray} {pc N S : Nat} (H : BY c N S) (k : K2 N S pc 16 v) (e : Jvm.ClassFile.Reader.signed 8 v = w) : decode c pc = .ok (.bipush w, 2) := q2s (F := .bipush) j_16 v H k e
theorem j_17 (c : ByteArray) (pc v : Nat) (h : U1 c pc 17) (h2 : U2 c (pc + 1) v) : IN c pc (.sipush (Jvm.ClassFile.Reader.signed 16 v)) 3 := by
  unfold IN Jvm.ClassFile.Decoder.instr
  exact (r_bind h).trans ((r_bind (r_map h2)).trans rfl)
theorem g_17 (v : Nat) {w : Int} {c : ByteArray} {pc N S : Nat} (H : BY c N S) (k : K3 N S pc 17 v) (e : Jvm.ClassFile.Reader.signed 16 v = w) : decode c pc = .ok (.sipush w, 3) := q3s (F := .sipush) j_17 v H k e
theorem j_18 (c : ByteArray) (pc v : Nat) (h : U1 c pc 18) (h2 : U1 c (pc + 1) v) : IN c pc (.ldc v) 2 := by
  unfold IN Jvm.ClassFile.Decoder.instr
  exact (r_bind h).trans ((r_bind h2).trans rfl)
theorem g_18 {v : Nat} {c : ByteArray} {pc N S : Nat} (H : BY c N S) (k : K2 N S pc 18 v) : decode c pc = .ok (.ldc v, 2) := q2 (F := .ldc) j_18 H k
theorem j_19 (c : ByteArray) (pc v : Nat) (h : U1 c pc 19) (h2 : U2 c (pc + 1) v) : IN c pc (.ldc_w v) 3 := by
  unfold IN Jvm.ClassFile.Decoder.instr
  exact (r_bind h).trans ((r_bind h2).trans rfl)
theorem g_19 {v : Nat} {c : ByteArray} {pc N S : Nat} (H : BY c N S) (k : K3 N S pc 19 v) : decode c pc = .ok (.ldc_w v, 3) := q3 (F := .ldc_w) j_19 H k
theorem j_20 (c : ByteArray) (pc v : Nat) (h : U1 c pc 20) (h2 : U2 c (pc + 1) v) : IN c pc (.ldc2_w v) 3 := by
  unfold IN Jvm.ClassFile.Decoder.instr
  exact (r_bind h).trans ((r_bind h2).trans rfl)
theorem g_20 {v : Nat} {c : ByteArray} {pc N S : Nat} (H : BY c N S) (k : K3 N S pc 20 v) : decode c pc = .ok (.ldc2_w v, 3) := q3 (F := .ldc2_w) j_20 H k
theorem j_21 (c : ByteArray) (pc v : Nat) (h : U1 c pc 21) (h2 : U1 c (pc + 1) v) : IN c pc (.iload v) 2 := by
  unfold IN Jvm.ClassFile.Decoder.instr
  exact (r_bind h).trans ((r_bind h2).trans rfl)
theorem g_21 {v : Nat} {c : ByteArray} {pc N S : Nat} (H : BY c N S) (k : K2 N S pc 21 v) : decode c pc = .ok (.iload v, 2) := q2 (F := .iload) j_21 H k
theorem j_22 (c : ByteArray) (pc v : Nat) (h : U1 c pc 22) (h2 : U1 c (pc + 1) v) : IN c pc (.lload v) 2 := by
  unfold IN Jvm.ClassFile.Decoder.instr
  exact (r_bind h).trans ((r_bind h2).trans rfl)
theorem g_22 {v : Nat} {c : ByteArray} {pc N S : Nat} (H : BY c N S) (k : K2 N S pc 22 v) : decode c pc = .ok (.lload v, 2) := q2 (F := .lload) j_22 H k
theorem j_25 (c : ByteArray) (pc v : Nat) (h : U1 c pc 25) (h2 : U1 c (pc + 1) v) : IN c pc (.aload v) 2 := by
  unfold IN Jvm.ClassFile.Decoder.instr
  exact (r_bind h).trans ((r_bind h2).trans rfl)
theorem g_25 {v : Nat} {c : ByteArray} {pc N S : Nat} (H : BY c N S) (k : K2 N S pc 25 v) : decode c pc = .ok (.aload v, 2) := q2 (F := .aload) j_25 H k
theorem j_26 (c : ByteArray) (pc : Nat) (h : U1 c pc 26) : IN c pc (.iload_n 0) 1 := by
  unfold IN Jvm.ClassFile.Decoder.instr
  exact (r_bind h).trans rfl
theorem g_26 {c : ByteArray} {pc N S : Nat} (H : BY c N S) (k : K1 N S pc 26) : decode c pc = .ok (.iload_n 0, 1) := q1 j_26 H k
theorem j_27 (c : ByteArray) (pc : Nat) (h : U1 c pc 27) : IN c pc (.iload_n 1) 1 := by
  unfold IN Jvm.ClassFile.Decoder.instr
  exact (r_bind h).trans rfl
theorem g_27 {c : ByteArray} {pc N S : Nat} (H : BY c N S) (k : K1 N S pc 27) : decode c pc = .ok (.iload_n 1, 1) := q1 j_27 H k
theorem j_28 (c : ByteArray) (pc : Nat) (h : U1 c pc 28) : IN c pc (.iload_n 2) 1 := by
  unfold IN Jvm.ClassFile.Decoder.instr
  exact (r_bind h).trans rfl
theorem g_28 {c : ByteArray} {pc N S : Nat} (H : BY c N S) (k : K1 N S pc 28) : decode c pc = .ok (.iload_n 2, 1) := q1 j_28 H k
theorem j_29 (c : ByteArray) (pc : Nat) (h : U1 c pc 29) : IN c pc (.iload_n 3) 1 := by
  unfold IN Jvm.ClassFile.Decoder.instr
  exact (r_bind h).trans rfl
theorem g_29 {c : ByteArray} {pc N S : Nat} (H : BY c N S) (k : K1 N S pc 29) : decode c pc = .ok (.iload_n 3, 1) := q1 j_29 H k
theorem j_30 (c : ByteArray) (pc : Nat) (h : U1 c pc 30) : IN c pc (.lload_n 0) 1 := by
  unfold IN Jvm.ClassFile.Decoder.instr
  exact (r_bind h).trans rfl
theorem g_30 {c : ByteArray} {pc N S : Nat} (H : BY c N S) (k : K1 N S pc 30) : decode c pc = .ok (.lload_n 0, 1) := q1 j_30 H k
theorem j_31 (c : ByteArray) (pc : Nat) (h : U1 c pc 31) : IN c pc (.lload_n 1) 1 := by
  unfold IN Jvm.ClassFile.Decoder.instr
  exact (r_bind h).trans rfl
theorem g_31 {c : ByteArray} {pc N S : Nat} (H : BY c N S) (k : K1 N S pc 31) : decode c pc = .ok (.lload_n 1, 1) := q1 j_31 H k
theorem j_32 (c : ByteArray) (pc : Nat) (h : U1 c pc 32) : IN c pc (.lload_n 2) 1 := by
  unfold IN Jvm.ClassFile.Decoder.instr
  exact (r_bind h).trans rfl
theorem g_32 {c : ByteArray} {pc N S : Nat} (H : BY c N S) (k : K1 N S pc 32) : decode c pc = .ok (.lload_n 2, 1) := q1 j_32 H k
theorem j_33 (c : ByteArray) (pc : Nat) (h : U1 c pc 33) : IN c pc (.lload_n 3) 1 := by
  unfold IN Jvm.ClassFile.Decoder.instr
  exact (r_bind h).trans rfl
theorem g_33 {c : ByteArray} {pc N S : Nat} (H : BY c N S) (k : K1 N S pc 33) : decode c pc = .ok (.lload_n 3, 1) := q1 j_33 H k
theorem j_42 (c : ByteArray) (pc : Nat) (h : U1 c pc 42) : IN c pc (.aload_n 0) 1 := by
  unfold IN Jvm.ClassFile.Decoder.instr
  exact (r_bind h).trans rfl
theorem g_42 {c : ByteArray} {pc N S : Nat} (H : BY c N S) (k : K1 N S pc 42) : decode c pc = .ok (.aload_n 0, 1) := q1 j_42 H k
theorem j_43 (c : ByteArray) (pc : Nat) (h : U1 c pc 43) : IN c pc (.aload_n 1) 1 := by
  unfold IN Jvm.ClassFile.Decoder.instr
  exact (r_bind h).trans rfl
theorem g_43 {c : ByteArray} {pc N S : Nat} (H : BY c N S) (k : K1 N S pc 43) : decode c pc = .ok (.aload_n 1, 1) := q1 j_43 H k
theorem j_44 (c : ByteArray) (pc : Nat) (h : U1 c pc 44) : IN c pc (.aload_n 2) 1 := by
  unfold IN Jvm.ClassFile.Decoder.instr
  exact (r_bind h).trans rfl
theorem g_44 {c : ByteArray} {pc N S : Nat} (H : BY c N S) (k : K1 N S pc 44) : decode c pc = .ok (.aload_n 2, 1) := q1 j_44 H k
theorem j_45 (c : ByteArray) (pc : Nat) (h : U1 c pc 45) : IN c pc (.aload_n 3) 1 := by
  unfold IN Jvm.ClassFile.Decoder.instr
  exact (r_bind h).trans rfl
theorem g_45 {c : ByteArray} {pc N S : Nat} (H : BY c N S) (k : K1 N S pc 45) : decode c pc = .ok (.aload_n 3, 1) := q1 j_45 H k
theorem j_46 (c : ByteArray) (pc : Nat) (h : U1 c pc 46) : IN c pc (.iaload) 1 := by
  unfold IN Jvm.ClassFile.Decoder.instr
  exact (r_bind h).trans rfl
theorem g_46 {c : ByteArray} {pc N S : Nat} (H : BY c N S) (k : K1 N S pc 46) : decode c pc = .ok (.iaload, 1) := q1 j_46 H k
theorem j_47 (c : ByteArray) (pc : Nat) (h : U1 c pc 47) : IN c pc (.laload) 1 := by
  unfold IN Jvm.ClassFile.Decoder.instr
  exact (r_bind h).trans rfl
theorem g_47 {c : ByteArray} {pc N S : Nat} (H : BY c N S) (k : K1 N S pc 47) : decode c pc = .ok (.laload, 1) := q1 j_47 H k
theorem j_50 (c : ByteArray) (pc : Nat) (h : U1 c pc 50) : IN c pc (.aaload) 1 := by
  unfold IN Jvm.ClassFile.Decoder.instr
  exact (r_bind h).trans rfl
theorem g_50 {c : ByteArray} {pc N S : Nat} (H : BY c N S) (k : K1 N S pc 50) : decode c pc = .ok (.aaload, 1) := q1 j_50 H k
theorem j_51 (c : ByteArray) (pc : Nat) (h : U1 c pc 51) : IN c pc (.baload) 1 := by
  unfold IN Jvm.ClassFile.Decoder.instr
  exact (r_bind h).trans rfl
theorem g_51 {c : ByteArray} {pc N S : Nat} (H : BY c N S) (k : K1 N S pc 51) : decode c pc = .ok (.baload, 1) := q1 j_51 H k
theorem j_54 (c : ByteArray) (pc v : Nat) (h : U1 c pc 54) (h2 : U1 c (pc + 1) v) : IN c pc (.istore v) 2 := by
  unfold IN Jvm.ClassFile.Decoder.instr
  exact (r_bind h).trans ((r_bind h2).trans rfl)
theorem g_54 {v : Nat} {c : ByteArray} {pc N S : Nat} (H : BY c N S) (k : K2 N S pc 54 v) : decode c pc = .ok (.istore v, 2) := q2 (F := .istore) j_54 H k
theorem j_55 (c : ByteArray) (pc v : Nat) (h : U1 c pc 55) (h2 : U1 c (pc + 1) v) : IN c pc (.lstore v) 2 := by
  unfold IN Jvm.ClassFile.Decoder.instr
  exact (r_bind h).trans ((r_bind h2).trans rfl)
theorem g_55 {v : Nat} {c : ByteArray} {pc N S : Nat} (H : BY c N S) (k : K2 N S pc 55 v) : decode c pc = .ok (.lstore v, 2) := q2 (F := .lstore) j_55 H k
theorem j_58 (c : ByteArray) (pc v : Nat) (h : U1 c pc 58) (h2 : U1 c (pc + 1) v) : IN c pc (.astore v) 2 := by
  unfold IN Jvm.ClassFile.Decoder.instr
  exact (r_bind h).trans ((r_bind h2).trans rfl)
theorem g_58 {v : Nat} {c : ByteArray} {pc N S : Nat} (H : BY c N S) (k : K2 N S pc 58 v) : decode c pc = .ok (.astore v, 2) := q2 (F := .astore) j_58 H k
theorem j_59 (c : ByteArray) (pc : Nat) (h : U1 c pc 59) : IN c pc (.istore_n 0) 1 := by
  unfold IN Jvm.ClassFile.Decoder.instr
  exact (r_bind h).trans rfl
theorem g_59 {c : ByteArray} {pc N S : Nat} (H : BY c N S) (k : K1 N S pc 59) : decode c pc = .ok (.istore_n 0, 1) := q1 j_59 H k
theorem j_60 (c : ByteArray) (pc : Nat) (h : U1 c pc 60) : IN c pc (.istore_n 1) 1 := by
  unfold IN Jvm.ClassFile.Decoder.instr
  exact (r_bind h).trans rfl
theorem g_60 {c : ByteArray} {pc N S : Nat} (H : BY c N S) (k : K1 N S pc 60) : decode c pc = .ok (.istore_n 1, 1) := q1 j_60 H k
theorem j_61 (c : ByteArray) (pc : Nat) (h : U1 c pc 61) : IN c pc (.istore_n 2) 1 := by
  unfold IN Jvm.ClassFile.Decoder.instr
  exact (r_bind h).trans rfl
theorem g_61 {c : ByteArray} {pc N S : Nat} (H : BY c N S) (k : K1 N S pc 61) : decode c pc = .ok (.istore_n 2, 1) := q1 j_61 H k
theorem j_62 (c : ByteArray) (pc : Nat) (h : U1 c pc 62) : IN c pc (.istore_n 3) 1 := by
  unfold IN Jvm.ClassFile.Decoder.instr
  exact (r_bind h).trans rfl
theorem g_62 {c : ByteArray} {pc N S : Nat} (H : BY c N S) (k : K1 N S pc 62) : decode c pc = .ok (.istore_n 3, 1) := q1 j_62 H k
theorem j_76 (c : ByteArray) (pc : Nat) (h : U1 c pc 76) : IN c pc (.astore_n 1) 1 := by
  unfold IN Jvm.ClassFile.Decoder.instr
  exact (r_bind h).trans rfl
theorem g_76 {c : ByteArray} {pc N S : Nat} (H : BY c N S) (k : K1 N S pc 76) : decode c pc = .ok (.astore_n 1, 1) := q1 j_76 H k
theorem j_77 (c : ByteArray) (pc : Nat) (h : U1 c pc 77) : IN c pc (.astore_n 2) 1 := by
  unfold IN Jvm.ClassFile.Decoder.instr
  exact (r_bind h).trans rfl
theorem g_77 {c : ByteArray} {pc N S : Nat} (H : BY c N S) (k : K1 N S pc 77) : decode c pc = .ok (.astore_n 2, 1) := q1 j_77 H k
theorem j_78 (c : ByteArray) (pc : Nat) (h : U1 c pc 78) : IN c pc (.astore_n 3) 1 := by
  unfold IN Jvm.ClassFile.Decoder.instr
  exact (r_bind h).trans rfl
theorem g_78 {c : ByteArray} {pc N S : Nat} (H : BY c N S) (k : K1 N S pc 78) : decode c pc = .ok (.astore_n 3, 1) := q1 j_78 H k
theorem j_79 (c : ByteArray) (pc : Nat) (h : U1 c pc 79) : IN c pc (.iastore) 1 := by
  unfold IN Jvm.ClassFile.Decoder.instr
  exact (r_bind h).trans rfl
theorem g_79 {c : ByteArray} {pc N S : Nat} (H : BY c N S) (k : K1 N S pc 79) : decode c pc = .ok (.iastore, 1) := q1 j_79 H k
theorem j_80 (c : ByteArray) (pc : Nat) (h : U1 c pc 80) : IN c pc (.lastore) 1 := by
  unfold IN Jvm.ClassFile.Decoder.instr
  exact (r_bind h).trans rfl
theorem g_80 {c : ByteArray} {pc N S : Nat} (H : BY c N S) (k : K1 N S pc 80) : decode c pc = .ok (.lastore, 1) := q1 j_80 H k
theorem j_83 (c : ByteArray) (pc : Nat) (h : U1 c pc 83) : IN c pc (.aastore) 1 := by
  unfold IN Jvm.ClassFile.Decoder.instr
  exact (r_bind h).trans rfl
theorem g_83 {c : ByteArray} {pc N S : Nat} (H : BY c N S) (k : K1 N S pc 83) : decode c pc = .ok (.aastore, 1) := q1 j_83 H k
theorem j_84 (c : ByteArray) (pc : Nat) (h : U1 c pc 84) : IN c pc (.bastore) 1 := by
  unfold IN Jvm.ClassFile.Decoder.instr
  exact (r_bind h).trans rfl
theorem g_84 {c : ByteArray} {pc N S : Nat} (H : BY c N S) (k : K1 N S pc 84) : decode c pc = .ok (.bastore, 1) := q1 j_84 H k
theorem j_87 (c : ByteArray) (pc : Nat) (h : U1 c pc 87) : IN c pc (.pop) 1 := by
  unfold IN Jvm.ClassFile.Decoder.instr
  exact (r_bind h).trans rfl
theorem g_87 {c : ByteArray} {pc N S : Nat} (H : BY c N S) (k : K1 N S pc 87) : decode c pc = .ok (.pop, 1) := q1 j_87 H k
theorem j_88 (c : ByteArray) (pc : Nat) (h : U1 c pc 88) : IN c pc (.pop2) 1 := by
  unfold IN Jvm.ClassFile.Decoder.instr
  exact (r_bind h).trans rfl
theorem g_88 {c : ByteArray} {pc N S : Nat} (H : BY c N S) (k : K1 N S pc 88) : decode c pc = .ok (.pop2, 1) := q1 j_88 H k
theorem j_89 (c : ByteArray) (pc : Nat) (h : U1 c pc 89) : IN c pc (.dup) 1 := by
  unfold IN Jvm.ClassFile.Decoder.instr
  exact (r_bind h).trans rfl
theorem g_89 {c : ByteArray} {pc N S : Nat} (H : BY c N S) (k : K1 N S pc 89) : decode c pc = .ok (.dup, 1) := q1 j_89 H k
theorem j_90 (c : ByteArray) (pc : Nat) (h : U1 c pc 90) : IN c pc (.dup_x1) 1 := by
  unfold IN Jvm.ClassFile.Decoder.instr
  exact (r_bind h).trans rfl
theorem g_90 {c : ByteArray} {pc N S : Nat} (H : BY c N S) (k : K1 N S pc 90) : decode c pc = .ok (.dup_x1, 1) := q1 j_90 H k
theorem j_92 (c : ByteArray) (pc : Nat) (h : U1 c pc 92) : IN c pc (.dup2) 1 := by
  unfold IN Jvm.ClassFile.Decoder.instr
  exact (r_bind h).trans rfl
theorem g_92 {c : ByteArray} {pc N S : Nat} (H : BY c N S) (k : K1 N S pc 92) : decode c pc = .ok (.dup2, 1) := q1 j_92 H k
theorem j_96 (c : ByteArray) (pc : Nat) (h : U1 c pc 96) : IN c pc (.iadd) 1 := by
  unfold IN Jvm.ClassFile.Decoder.instr
  exact (r_bind h).trans rfl
theorem g_96 {c : ByteArray} {pc N S : Nat} (H : BY c N S) (k : K1 N S pc 96) : decode c pc = .ok (.iadd, 1) := q1 j_96 H k
theorem j_97 (c : ByteArray) (pc : Nat) (h : U1 c pc 97) : IN c pc (.ladd) 1 := by
  unfold IN Jvm.ClassFile.Decoder.instr
  exact (r_bind h).trans rfl
theorem g_97 {c : ByteArray} {pc N S : Nat} (H : BY c N S) (k : K1 N S pc 97) : decode c pc = .ok (.ladd, 1) := q1 j_97 H k
theorem j_100 (c : ByteArray) (pc : Nat) (h : U1 c pc 100) : IN c pc (.isub) 1 := by
  unfold IN Jvm.ClassFile.Decoder.instr
  exact (r_bind h).trans rfl
theorem g_100 {c : ByteArray} {pc N S : Nat} (H : BY c N S) (k : K1 N S pc 100) : decode c pc = .ok (.isub, 1) := q1 j_100 H k
theorem j_101 (c : ByteArray) (pc : Nat) (h : U1 c pc 101) : IN c pc (.lsub) 1 := by
  unfold IN Jvm.ClassFile.Decoder.instr
  exact (r_bind h).trans rfl
theorem g_101 {c : ByteArray} {pc N S : Nat} (H : BY c N S) (k : K1 N S pc 101) : decode c pc = .ok (.lsub, 1) := q1 j_101 H k
theorem j_104 (c : ByteArray) (pc : Nat) (h : U1 c pc 104) : IN c pc (.imul) 1 := by
  unfold IN Jvm.ClassFile.Decoder.instr
  exact (r_bind h).trans rfl
theorem g_104 {c : ByteArray} {pc N S : Nat} (H : BY c N S) (k : K1 N S pc 104) : decode c pc = .ok (.imul, 1) := q1 j_104 H k
theorem j_105 (c : ByteArray) (pc : Nat) (h : U1 c pc 105) : IN c pc (.lmul) 1 := by
  unfold IN Jvm.ClassFile.Decoder.instr
  exact (r_bind h).trans rfl
theorem g_105 {c : ByteArray} {pc N S : Nat} (H : BY c N S) (k : K1 N S pc 105) : decode c pc = .ok (.lmul, 1) := q1 j_105 H k
theorem j_108 (c : ByteArray) (pc : Nat) (h : U1 c pc 108) : IN c pc (.idiv) 1 := by
  unfold IN Jvm.ClassFile.Decoder.instr
  exact (r_bind h).trans rfl
theorem g_108 {c : ByteArray} {pc N S : Nat} (H : BY c N S) (k : K1 N S pc 108) : decode c pc = .ok (.idiv, 1) := q1 j_108 H k
theorem j_109 (c : ByteArray) (pc : Nat) (h : U1 c pc 109) : IN c pc (.ldiv) 1 := by
  unfold IN Jvm.ClassFile.Decoder.instr
  exact (r_bind h).trans rfl
theorem g_109 {c : ByteArray} {pc N S : Nat} (H : BY c N S) (k : K1 N S pc 109) : decode c pc = .ok (.ldiv, 1) := q1 j_109 H k
theorem j_112 (c : ByteArray) (pc : Nat) (h : U1 c pc 112) : IN c pc (.irem) 1 := by
  unfold IN Jvm.ClassFile.Decoder.instr
  exact (r_bind h).trans rfl
theorem g_112 {c : ByteArray} {pc N S : Nat} (H : BY c N S) (k : K1 N S pc 112) : decode c pc = .ok (.irem, 1) := q1 j_112 H k
theorem j_113 (c : ByteArray) (pc : Nat) (h : U1 c pc 113) : IN c pc (.lrem) 1 := by
  unfold IN Jvm.ClassFile.Decoder.instr
  exact (r_bind h).trans rfl
theorem g_113 {c : ByteArray} {pc N S : Nat} (H : BY c N S) (k : K1 N S pc 113) : decode c pc = .ok (.lrem, 1) := q1 j_113 H k
theorem j_116 (c : ByteArray) (pc : Nat) (h : U1 c pc 116) : IN c pc (.ineg) 1 := by
  unfold IN Jvm.ClassFile.Decoder.instr
  exact (r_bind h).trans rfl
theorem g_116 {c : ByteArray} {pc N S : Nat} (H : BY c N S) (k : K1 N S pc 116) : decode c pc = .ok (.ineg, 1) := q1 j_116 H k
theorem j_120 (c : ByteArray) (pc : Nat) (h : U1 c pc 120) : IN c pc (.ishl) 1 := by
  unfold IN Jvm.ClassFile.Decoder.instr
  exact (r_bind h).trans rfl
theorem g_120 {c : ByteArray} {pc N S : Nat} (H : BY c N S) (k : K1 N S pc 120) : decode c pc = .ok (.ishl, 1) := q1 j_120 H k
theorem j_121 (c : ByteArray) (pc : Nat) (h : U1 c pc 121) : IN c pc (.lshl) 1 := by
  unfold IN Jvm.ClassFile.Decoder.instr
  exact (r_bind h).trans rfl
theorem g_121 {c : ByteArray} {pc N S : Nat} (H : BY c N S) (k : K1 N S pc 121) : decode c pc = .ok (.lshl, 1) := q1 j_121 H k
theorem j_122 (c : ByteArray) (pc : Nat) (h : U1 c pc 122) : IN c pc (.ishr) 1 := by
  unfold IN Jvm.ClassFile.Decoder.instr
  exact (r_bind h).trans rfl
theorem g_122 {c : ByteArray} {pc N S : Nat} (H : BY c N S) (k : K1 N S pc 122) : decode c pc = .ok (.ishr, 1) := q1 j_122 H k
theorem j_124 (c : ByteArray) (pc : Nat) (h : U1 c pc 124) : IN c pc (.iushr) 1 := by
  unfold IN Jvm.ClassFile.Decoder.instr
  exact (r_bind h).trans rfl
theorem g_124 {c : ByteArray} {pc N S : Nat} (H : BY c N S) (k : K1 N S pc 124) : decode c pc = .ok (.iushr, 1) := q1 j_124 H k
theorem j_126 (c : ByteArray) (pc : Nat) (h : U1 c pc 126) : IN c pc (.iand) 1 := by
  unfold IN Jvm.ClassFile.Decoder.instr
  exact (r_bind h).trans rfl
theorem g_126 {c : ByteArray} {pc N S : Nat} (H : BY c N S) (k : K1 N S pc 126) : decode c pc = .ok (.iand, 1) := q1 j_126 H k
theorem j_127 (c : ByteArray) (pc : Nat) (h : U1 c pc 127) : IN c pc (.land) 1 := by
  unfold IN Jvm.ClassFile.Decoder.instr
  exact (r_bind h).trans rfl
theorem g_127 {c : ByteArray} {pc N S : Nat} (H : BY c N S) (k : K1 N S pc 127) : decode c pc = .ok (.land, 1) := q1 j_127 H k
theorem j_128 (c : ByteArray) (pc : Nat) (h : U1 c pc 128) : IN c pc (.ior) 1 := by
  unfold IN Jvm.ClassFile.Decoder.instr
  exact (r_bind h).trans rfl
theorem g_128 {c : ByteArray} {pc N S : Nat} (H : BY c N S) (k : K1 N S pc 128) : decode c pc = .ok (.ior, 1) := q1 j_128 H k
theorem j_129 (c : ByteArray) (pc : Nat) (h : U1 c pc 129) : IN c pc (.lor) 1 := by
  unfold IN Jvm.ClassFile.Decoder.instr
  exact (r_bind h).trans rfl
theorem g_129 {c : ByteArray} {pc N S : Nat} (H : BY c N S) (k : K1 N S pc 129) : decode c pc = .ok (.lor, 1) := q1 j_129 H k
theorem j_130 (c : ByteArray) (pc : Nat) (h : U1 c pc 130) : IN c pc (.ixor) 1 := by
  unfold IN Jvm.ClassFile.Decoder.instr
  exact (r_bind h).trans rfl
theorem g_130 {c : ByteArray} {pc N S : Nat} (H : BY c N S) (k : K1 N S pc 130) : decode c pc = .ok (.ixor, 1) := q1 j_130 H k
theorem j_132 (c : ByteArray) (pc a v : Nat) (h : U1 c pc 132) (h2 : U1 c (pc + 1) a) (h3 : U1 c (pc + 2) v) : IN c pc (.iinc a (Jvm.ClassFile.Reader.signed 8 v)) 3 := by
  unfold IN Jvm.ClassFile.Decoder.instr
  exact (r_bind h).trans ((r_bind h2).trans ((r_bind (r_map h3)).trans rfl))
theorem g_132 (v : Nat) {a : Nat} {w : Int} {c : ByteArray} {pc N S : Nat} (H : BY c N S) (k : K4 N S pc 132 a v) (e : Jvm.ClassFile.Reader.signed 8 v = w) : decode c pc = .ok (.iinc a w, 3) := q_iinc j_132 v H k e
theorem j_133 (c : ByteArray) (pc : Nat) (h : U1 c pc 133) : IN c pc (.i2l) 1 := by
  unfold IN Jvm.ClassFile.Decoder.instr
  exact (r_bind h).trans rfl
theorem g_133 {c : ByteArray} {pc N S : Nat} (H : BY c N S) (k : K1 N S pc 133) : decode c pc = .ok (.i2l, 1) := q1 j_133 H k
theorem j_136 (c : ByteArray) (pc : Nat) (h : U1 c pc 136) : IN c pc (.l2i) 1 := by
  unfold IN Jvm.ClassFile.Decoder.instr
  exact (r_bind h).trans rfl
theorem g_136 {c : ByteArray} {pc N S : Nat} (H : BY c N S) (k : K1 N S pc 136) : decode c pc = .ok (.l2i, 1) := q1 j_136 H k
theorem j_145 (c : ByteArray) (pc : Nat) (h : U1 c pc 145) : IN c pc (.i2b) 1 := by
  unfold IN Jvm.ClassFile.Decoder.instr
  exact (r_bind h).trans rfl
theorem g_145 {c : ByteArray} {pc N S : Nat} (H : BY c N S) (k : K1 N S pc 145) : decode c pc = .ok (.i2b, 1) := q1 j_145 H k
theorem j_146 (c : ByteArray) (pc : Nat) (h : U1 c pc 146) : IN c pc (.i2c) 1 := by
  unfold IN Jvm.ClassFile.Decoder.instr
  exact (r_bind h).trans rfl
theorem g_146 {c : ByteArray} {pc N S : Nat} (H : BY c N S) (k : K1 N S pc 146) : decode c pc = .ok (.i2c, 1) := q1 j_146 H k
theorem j_147 (c : ByteArray) (pc : Nat) (h : U1 c pc 147) : IN c pc (.i2s) 1 := by
  unfold IN Jvm.ClassFile.Decoder.instr
  exact (r_bind h).trans rfl
theorem g_147 {c : ByteArray} {pc N S : Nat} (H : BY c N S) (k : K1 N S pc 147) : decode c pc = .ok (.i2s, 1) := q1 j_147 H k
theorem j_148 (c : ByteArray) (pc : Nat) (h : U1 c pc 148) : IN c pc (.lcmp) 1 := by
  unfold IN Jvm.ClassFile.Decoder.instr
  exact (r_bind h).trans rfl
theorem g_148 {c : ByteArray} {pc N S : Nat} (H : BY c N S) (k : K1 N S pc 148) : decode c pc = .ok (.lcmp, 1) := q1 j_148 H k
theorem j_153 (c : ByteArray) (pc v : Nat) (h : U1 c pc 153) (h2 : U2 c (pc + 1) v) : IN c pc (.ifCond .eq (Jvm.ClassFile.Reader.signed 16 v)) 3 := by
  unfold IN Jvm.ClassFile.Decoder.instr
  exact (r_bind h).trans ((r_bind (r_map h2)).trans rfl)
theorem g_153 (v : Nat) {w : Int} {c : ByteArray} {pc N S : Nat} (H : BY c N S) (k : K3 N S pc 153 v) (e : Jvm.ClassFile.Reader.signed 16 v = w) : decode c pc = .ok (.ifCond .eq w, 3) := q3s (F := .ifCond .eq) j_153 v H k e
theorem j_154 (c : ByteArray) (pc v : Nat) (h : U1 c pc 154) (h2 : U2 c (pc + 1) v) : IN c pc (.ifCond .ne (Jvm.ClassFile.Reader.signed 16 v)) 3 := by
  unfold IN Jvm.ClassFile.Decoder.instr
  exact (r_bind h).trans ((r_bind (r_map h2)).trans rfl)
theorem g_154 (v : Nat) {w : Int} {c : ByteArray} {pc N S : Nat} (H : BY c N S) (k : K3 N S pc 154 v) (e : Jvm.ClassFile.Reader.signed 16 v = w) : decode c pc = .ok (.ifCond .ne w, 3) := q3s (F := .ifCond .ne) j_154 v H k e
theorem j_155 (c : ByteArray) (pc v : Nat) (h : U1 c pc 155) (h2 : U2 c (pc + 1) v) : IN c pc (.ifCond .lt (Jvm.ClassFile.Reader.signed 16 v)) 3 := by
  unfold IN Jvm.ClassFile.Decoder.instr
  exact (r_bind h).trans ((r_bind (r_map h2)).trans rfl)
theorem g_155 (v : Nat) {w : Int} {c : ByteArray} {pc N S : Nat} (H : BY c N S) (k : K3 N S pc 155 v) (e : Jvm.ClassFile.Reader.signed 16 v = w) : decode c pc = .ok (.ifCond .lt w, 3) := q3s (F := .ifCond .lt) j_155 v H k e
theorem j_156 (c : ByteArray) (pc v : Nat) (h : U1 c pc 156) (h2 : U2 c (pc + 1) v) : IN c pc (.ifCond .ge (Jvm.ClassFile.Reader.signed 16 v)) 3 := by
  unfold IN Jvm.ClassFile.Decoder.instr
  exact (r_bind h).trans ((r_bind (r_map h2)).trans rfl)
theorem g_156 (v : Nat) {w : Int} {c : ByteArray} {pc N S : Nat} (H : BY c N S) (k : K3 N S pc 156 v) (e : Jvm.ClassFile.Reader.signed 16 v = w) : decode c pc = .ok (.ifCond .ge w, 3) := q3s (F := .ifCond .ge) j_156 v H k e
theorem j_157 (c : ByteArray) (pc v : Nat) (h : U1 c pc 157) (h2 : U2 c (pc + 1) v) : IN c pc (.ifCond .gt (Jvm.ClassFile.Reader.signed 16 v)) 3 := by
  unfold IN Jvm.ClassFile.Decoder.instr
  exact (r_bind h).trans ((r_bind (r_map h2)).trans rfl)
theorem g_157 (v : Nat) {w : Int} {c : ByteArray} {pc N S : Nat} (H : BY c N S) (k : K3 N S pc 157 v) (e : Jvm.ClassFile.Reader.signed 16 v = w) : decode c pc = .ok (.ifCond .gt w, 3) := q3s (F := .ifCond .gt) j_157 v H k e
theorem j_158 (c : ByteArray) (pc v : Nat) (h : U1 c pc 158) (h2 : U2 c (pc + 1) v) : IN c pc (.ifCond .le (Jvm.ClassFile.Reader.signed 16 v)) 3 := by
  unfold IN Jvm.ClassFile.Decoder.instr
  exact (r_bind h).trans ((r_bind (r_map h2)).trans rfl)
theorem g_158 (v : Nat) {w : Int} {c : ByteArray} {pc N S : Nat} (H : BY c N S) (k : K3 N S pc 158 v) (e : Jvm.ClassFile.Reader.signed 16 v = w) : decode c pc = .ok (.ifCond .le w, 3) := q3s (F := .ifCond .le) j_158 v H k e
theorem j_159 (c : ByteArray) (pc v : Nat) (h : U1 c pc 159) (h2 : U2 c (pc + 1) v) : IN c pc (.if_icmp .eq (Jvm.ClassFile.Reader.signed 16 v)) 3 := by
  unfold IN Jvm.ClassFile.Decoder.instr
  exact (r_bind h).trans ((r_bind (r_map h2)).trans rfl)
theorem g_159 (v : Nat) {w : Int} {c : ByteArray} {pc N S : Nat} (H : BY c N S) (k : K3 N S pc 159 v) (e : Jvm.ClassFile.Reader.signed 16 v = w) : decode c pc = .ok (.if_icmp .eq w, 3) := q3s (F := .if_icmp .eq) j_159 v H k e
theorem j_160 (c : ByteArray) (pc v : Nat) (h : U1 c pc 160) (h2 : U2 c (pc + 1) v) : IN c pc (.if_icmp .ne (Jvm.ClassFile.Reader.signed 16 v)) 3 := by
  unfold IN Jvm.ClassFile.Decoder.instr
  exact (r_bind h).trans ((r_bind (r_map h2)).trans rfl)
theorem g_160 (v : Nat) {w : Int} {c : ByteArray} {pc N S : Nat} (H : BY c N S) (k : K3 N S pc 160 v) (e : Jvm.ClassFile.Reader.signed 16 v = w) : decode c pc = .ok (.if_icmp .ne w, 3) := q3s (F := .if_icmp .ne) j_160 v H k e
theorem j_161 (c : ByteArray) (pc v : Nat) (h : U1 c pc 161) (h2 : U2 c (pc + 1) v) : IN c pc (.if_icmp .lt (Jvm.ClassFile.Reader.signed 16 v)) 3 := by
  unfold IN Jvm.ClassFile.Decoder.instr
  exact (r_bind h).trans ((r_bind (r_map h2)).trans rfl)
theorem g_161 (v : Nat) {w : Int} {c : ByteArray} {pc N S : Nat} (H : BY c N S) (k : K3 N S pc 161 v) (e : Jvm.ClassFile.Reader.signed 16 v = w) : decode c pc = .ok (.if_icmp .lt w, 3) := q3s (F := .if_icmp .lt) j_161 v H k e
theorem j_162 (c : ByteArray) (pc v : Nat) (h : U1 c pc 162) (h2 : U2 c (pc + 1) v) : IN c pc (.if_icmp .ge (Jvm.ClassFile.Reader.signed 16 v)) 3 := by
  unfold IN Jvm.ClassFile.Decoder.instr
  exact (r_bind h).trans ((r_bind (r_map h2)).trans rfl)
theorem g_162 (v : Nat) {w : Int} {c : ByteArray} {pc N S : Nat} (H : BY c N S) (k : K3 N S pc 162 v) (e : Jvm.ClassFile.Reader.signed 16 v = w) : decode c pc = .ok (.if_icmp .ge w, 3) := q3s (F := .if_icmp .ge) j_162 v H k e
theorem j_163 (c : ByteArray) (pc v : Nat) (h : U1 c pc 163) (h2 : U2 c (pc + 1) v) : IN c pc (.if_icmp .gt (Jvm.ClassFile.Reader.signed 16 v)) 3 := by
  unfold IN Jvm.ClassFile.Decoder.instr
  exact (r_bind h).trans ((r_bind (r_map h2)).trans rfl)
theorem g_163 (v : Nat) {w : Int} {c : ByteArray} {pc N S : Nat} (H : BY c N S) (k : K3 N S pc 163 v) (e : Jvm.ClassFile.Reader.signed 16 v = w) : decode c pc = .ok (.if_icmp .gt w, 3) := q3s (F := .if_icmp .gt) j_163 v H k e
theorem j_164 (c : ByteArray) (pc v : Nat) (h : U1 c pc 164) (h2 : U2 c (pc + 1) v) : IN c pc (.if_icmp .le (Jvm.ClassFile.Reader.signed 16 v)) 3 := by
  unfold IN Jvm.ClassFile.Decoder.instr
  exact (r_bind h).trans ((r_bind (r_map h2)).trans rfl)
theorem g_164 (v : Nat) {w : Int} {c : ByteArray} {pc N S : Nat} (H : BY c N S) (k : K3 N S pc 164 v) (e : Jvm.ClassFile.Reader.signed 16 v = w) : decode c pc = .ok (.if_icmp .le w, 3) := q3s (F := .if_icmp .le) j_164 v H k e
theorem j_167 (c : ByteArray) (pc v : Nat) (h : U1 c pc 167) (h2 : U2 c (pc + 1) v) : IN c pc (.goto (Jvm.ClassFile.Reader.signed 16 v)) 3 := by
  unfold IN Jvm.ClassFile.Decoder.instr
  exact (r_bind h).trans ((r_bind (r_map h2)).trans rfl)
theorem g_167 (v : Nat) {w : Int} {c : ByteArray} {pc N S : Nat} (H : BY c N S) (k : K3 N S pc 167 v) (e : Jvm.ClassFile.Reader.signed 16 v = w) : decode c pc = .ok (.goto w, 3) := q3s (F := .goto) j_167 v H k e
theorem j_172 (c : ByteArray) (pc : Nat) (h : U1 c pc 172) : IN c pc (.ireturn) 1 := by
  unfold IN Jvm.ClassFile.Decoder.instr
  exact (r_bind h).trans rfl
theorem g_172 {c : ByteArray} {pc N S : Nat} (H : BY c N S) (k : K1 N S pc 172) : decode c pc = .ok (.ireturn, 1) := q1 j_172 H k
theorem j_173 (c : ByteArray) (pc : Nat) (h : U1 c pc 173) : IN c pc (.lreturn) 1 := by
  unfold IN Jvm.ClassFile.Decoder.instr
  exact (r_bind h).trans rfl
theorem g_173 {c : ByteArray} {pc N S : Nat} (H : BY c N S) (k : K1 N S pc 173) : decode c pc = .ok (.lreturn, 1) := q1 j_173 H k
theorem j_176 (c : ByteArray) (pc : Nat) (h : U1 c pc 176) : IN c pc (.areturn) 1 := by
  unfold IN Jvm.ClassFile.Decoder.instr
  exact (r_bind h).trans rfl
theorem g_176 {c : ByteArray} {pc N S : Nat} (H : BY c N S) (k : K1 N S pc 176) : decode c pc = .ok (.areturn, 1) := q1 j_176 H k
theorem j_177 (c : ByteArray) (pc : Nat) (h : U1 c pc 177) : IN c pc (.return_) 1 := by
  unfold IN Jvm.ClassFile.Decoder.instr
  exact (r_bind h).trans rfl
theorem g_177 {c : ByteArray} {pc N S : Nat} (H : BY c N S) (k : K1 N S pc 177) : decode c pc = .ok (.return_, 1) := q1 j_177 H k
theorem j_178 (c : ByteArray) (pc v : Nat) (h : U1 c pc 178) (h2 : U2 c (pc + 1) v) : IN c pc (.getstatic v) 3 := by
  unfold IN Jvm.ClassFile.Decoder.instr
  exact (r_bind h).trans ((r_bind h2).trans rfl)
theorem g_178 {v : Nat} {c : ByteArray} {pc N S : Nat} (H : BY c N S) (k : K3 N S pc 178 v) : decode c pc = .ok (.getstatic v, 3) := q3 (F := .getstatic) j_178 H k
theorem j_180 (c : ByteArray) (pc v : Nat) (h : U1 c pc 180) (h2 : U2 c (pc + 1) v) : IN c pc (.getfield v) 3 := by
  unfold IN Jvm.ClassFile.Decoder.instr
  exact (r_bind h).trans ((r_bind h2).trans rfl)
theorem g_180 {v : Nat} {c : ByteArray} {pc N S : Nat} (H : BY c N S) (k : K3 N S pc 180 v) : decode c pc = .ok (.getfield v, 3) := q3 (F := .getfield) j_180 H k
theorem j_181 (c : ByteArray) (pc v : Nat) (h : U1 c pc 181) (h2 : U2 c (pc + 1) v) : IN c pc (.putfield v) 3 := by
  unfold IN Jvm.ClassFile.Decoder.instr
  exact (r_bind h).trans ((r_bind h2).trans rfl)
theorem g_181 {v : Nat} {c : ByteArray} {pc N S : Nat} (H : BY c N S) (k : K3 N S pc 181 v) : decode c pc = .ok (.putfield v, 3) := q3 (F := .putfield) j_181 H k
theorem j_182 (c : ByteArray) (pc v : Nat) (h : U1 c pc 182) (h2 : U2 c (pc + 1) v) : IN c pc (.invokevirtual v) 3 := by
  unfold IN Jvm.ClassFile.Decoder.instr
  exact (r_bind h).trans ((r_bind h2).trans rfl)
theorem g_182 {v : Nat} {c : ByteArray} {pc N S : Nat} (H : BY c N S) (k : K3 N S pc 182 v) : decode c pc = .ok (.invokevirtual v, 3) := q3 (F := .invokevirtual) j_182 H k
theorem j_183 (c : ByteArray) (pc v : Nat) (h : U1 c pc 183) (h2 : U2 c (pc + 1) v) : IN c pc (.invokespecial v) 3 := by
  unfold IN Jvm.ClassFile.Decoder.instr
  exact (r_bind h).trans ((r_bind h2).trans rfl)
theorem g_183 {v : Nat} {c : ByteArray} {pc N S : Nat} (H : BY c N S) (k : K3 N S pc 183 v) : decode c pc = .ok (.invokespecial v, 3) := q3 (F := .invokespecial) j_183 H k
theorem j_184 (c : ByteArray) (pc v : Nat) (h : U1 c pc 184) (h2 : U2 c (pc + 1) v) : IN c pc (.invokestatic v) 3 := by
  unfold IN Jvm.ClassFile.Decoder.instr
  exact (r_bind h).trans ((r_bind h2).trans rfl)
theorem g_184 {v : Nat} {c : ByteArray} {pc N S : Nat} (H : BY c N S) (k : K3 N S pc 184 v) : decode c pc = .ok (.invokestatic v, 3) := q3 (F := .invokestatic) j_184 H k
theorem j_187 (c : ByteArray) (pc v : Nat) (h : U1 c pc 187) (h2 : U2 c (pc + 1) v) : IN c pc (.new v) 3 := by
  unfold IN Jvm.ClassFile.Decoder.instr
  exact (r_bind h).trans ((r_bind h2).trans rfl)
theorem g_187 {v : Nat} {c : ByteArray} {pc N S : Nat} (H : BY c N S) (k : K3 N S pc 187 v) : decode c pc = .ok (.new v, 3) := q3 (F := .new) j_187 H k
theorem j_189 (c : ByteArray) (pc v : Nat) (h : U1 c pc 189) (h2 : U2 c (pc + 1) v) : IN c pc (.anewarray v) 3 := by
  unfold IN Jvm.ClassFile.Decoder.instr
  exact (r_bind h).trans ((r_bind h2).trans rfl)
theorem g_189 {v : Nat} {c : ByteArray} {pc N S : Nat} (H : BY c N S) (k : K3 N S pc 189 v) : decode c pc = .ok (.anewarray v, 3) := q3 (F := .anewarray) j_189 H k
theorem j_190 (c : ByteArray) (pc : Nat) (h : U1 c pc 190) : IN c pc (.arraylength) 1 := by
  unfold IN Jvm.ClassFile.Decoder.instr
  exact (r_bind h).trans rfl
theorem g_190 {c : ByteArray} {pc N S : Nat} (H : BY c N S) (k : K1 N S pc 190) : decode c pc = .ok (.arraylength, 1) := q1 j_190 H k
theorem j_199 (c : ByteArray) (pc v : Nat) (h : U1 c pc 199) (h2 : U2 c (pc + 1) v) : IN c pc (.ifnonnull (Jvm.ClassFile.Reader.signed 16 v)) 3 := by
  unfold IN Jvm.ClassFile.Decoder.instr
  exact (r_bind h).trans ((r_bind (r_map h2)).trans rfl)
theorem g_199 (v : Nat) {w : Int} {c : ByteArray} {pc N S : Nat} (H : BY c N S) (k : K3 N S pc 199 v) (e : Jvm.ClassFile.Reader.signed 16 v = w) : decode c pc = .ok (.ifnonnull w, 3) := q3s (F := .ifnonnull) j_199 v H k e
theorem j_na8 (c : ByteArray) (pc : Nat) (h : U1 c pc 188) (h2 : U1 c (pc + 1) 8) : IN c pc (.newarray .byte) 2 := by
  unfold IN Jvm.ClassFile.Decoder.instr
  exact (r_bind h).trans ((r_bind h2).trans rfl)
theorem g_na8 {c : ByteArray} {pc N S : Nat} (H : BY c N S) (k : K2 N S pc 188 8) : decode c pc = .ok (.newarray .byte, 2) := q_na j_na8 H k
theorem j_na10 (c : ByteArray) (pc : Nat) (h : U1 c pc 188) (h2 : U1 c (pc + 1) 10) : IN c pc (.newarray .int) 2 := by
  unfold IN Jvm.ClassFile.Decoder.instr
  exact (r_bind h).trans ((r_bind h2).trans rfl)
theorem g_na10 {c : ByteArray} {pc N S : Nat} (H : BY c N S) (k : K2 N S pc 188 10) : decode c pc = .ok (.newarray .int, 2) := q_na j_na10 H k
theorem j_na11 (c : ByteArray) (pc : Nat) (h : U1 c pc 188) (h2 : U1 c (pc + 1) 11) : IN c pc (.newarray .long) 2 := by
  unfold IN Jvm.ClassFile.Decoder.instr
  exact (r_bind h).trans ((r_bind h2).trans rfl)
theorem g_na11 {c : ByteArray} {pc N S : Nat} (H : BY c N S) (k : K2 N S pc 188 11) : decode c pc = .ok (.newarray .long, 2) := q_na j_na11 H k
