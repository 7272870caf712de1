/-! ONE TOWN, for class and reference: books, people, the seed; who is white, gone; worth, needs, good; age, reads, keeps, tells; known of one and a book -/
abbrev TA : Type := ((Nat × Nat) × (Int32 × (Nat → Bool) × (Nat → Bool))) × (((Nat → Int32) × (Nat → Int32) × (Nat → Int32)) × (((Nat → Int32) × (Nat → Int32)) × ((Nat → Int32) × (Nat → Int32)) × (Nat → Nat → Int32)))
abbrev T_nb (t : TA) : Nat := t.1.1.1
abbrev T_np (t : TA) : Nat := t.1.1.2
abbrev T_sd (t : TA) : Int32 := t.1.2.1
abbrev T_wh (t : TA) : Nat → Bool := t.1.2.2.1
abbrev T_gn (t : TA) : Nat → Bool := t.1.2.2.2
abbrev T_wo (t : TA) : Nat → Int32 := t.2.1.1
abbrev T_ne (t : TA) : Nat → Int32 := t.2.1.2.1
abbrev T_go (t : TA) : Nat → Int32 := t.2.1.2.2
abbrev T_ag (t : TA) : Nat → Int32 := t.2.2.1.1
abbrev T_re (t : TA) : Nat → Int32 := t.2.2.1.2
abbrev T_me (t : TA) : Nat → Int32 := t.2.2.2.1.1
abbrev T_te (t : TA) : Nat → Int32 := t.2.2.2.1.2
abbrev T_kn (t : TA) : Nat → Nat → Int32 := t.2.2.2.2
abbrev T_mk (nb np : Nat) (sd : Int32) (wh gn : Nat → Bool) (wo ne go ag re me te : Nat → Int32) (kn : Nat → Nat → Int32) : TA := (((nb, np), (sd, wh, gn)), ((wo, ne, go), ((ag, re), (me, te), kn)))
abbrev T_setkn (t : TA) (x : Nat → Nat → Int32) : TA := T_mk (T_nb t) (T_np t) (T_sd t) (T_wh t) (T_gn t) (T_wo t) (T_ne t) (T_go t) (T_ag t) (T_re t) (T_me t) (T_te t) x
abbrev T_setwh (t : TA) (x : Nat → Bool) : TA := T_mk (T_nb t) (T_np t) (T_sd t) x (T_gn t) (T_wo t) (T_ne t) (T_go t) (T_ag t) (T_re t) (T_me t) (T_te t) (T_kn t)
abbrev T_setgn (t : TA) (x : Nat → Bool) : TA := T_mk (T_nb t) (T_np t) (T_sd t) (T_wh t) x (T_wo t) (T_ne t) (T_go t) (T_ag t) (T_re t) (T_me t) (T_te t) (T_kn t)
abbrev T_setsd (t : TA) (x : Int32) : TA := T_mk (T_nb t) (T_np t) x (T_wh t) (T_gn t) (T_wo t) (T_ne t) (T_go t) (T_ag t) (T_re t) (T_me t) (T_te t) (T_kn t)
abbrev T_setgo (t : TA) (x : Nat → Int32) : TA := T_mk (T_nb t) (T_np t) (T_sd t) (T_wh t) (T_gn t) (T_wo t) (T_ne t) x (T_ag t) (T_re t) (T_me t) (T_te t) (T_kn t)
abbrev T_setag (t : TA) (x : Nat → Int32) : TA := T_mk (T_nb t) (T_np t) (T_sd t) (T_wh t) (T_gn t) (T_wo t) (T_ne t) (T_go t) x (T_re t) (T_me t) (T_te t) (T_kn t)
/-- places of a set -/
def bitb (s : Int32) (n : Nat) : Bool := decide (¬ (s >>> (nI n &&& 31)) &&& 1 = 0)
def wb8 (b0 b1 b2 b3 b4 b5 b6 b7 : Bool) : Int32 := nI ((if b0 then 1 else 0) + (if b1 then 2 else 0) + (if b2 then 4 else 0) + (if b3 then 8 else 0) + (if b4 then 16 else 0) + (if b5 then 32 else 0) + (if b6 then 64 else 0) + (if b7 then 128 else 0))
def wb (f : Nat → Bool) : Int32 := wb8 (f 0) (f 1) (f 2) (f 3) (f 4) (f 5) (f 6) (f 7)
def updB (f : Nat → Bool) (k : Nat) (v : Bool) : Nat → Bool := fun j => if j = k then v else f j
def updM (K : Nat → Nat → Int32) (p b : Nat) (v : Int32) : Nat → Nat → Int32 := fun p' => if p' = p then upd (K p) b v else K p'
def shF (K : Nat → Nat → Int32) : Nat → Int32 := fun i => K (i / 8) (i % 8)
def mx (a b : Int32) : Int32 := if a < b then b else a
theorem bit8 : ∀ b0 b1 b2 b3 b4 b5 b6 b7 : Bool, (bitb (wb8 b0 b1 b2 b3 b4 b5 b6 b7) 0 = b0 ∧ bitb (wb8 b0 b1 b2 b3 b4 b5 b6 b7) 1 = b1 ∧ bitb (wb8 b0 b1 b2 b3 b4 b5 b6 b7) 2 = b2 ∧ bitb (wb8 b0 b1 b2 b3 b4 b5 b6 b7) 3 = b3) ∧ (bitb (wb8 b0 b1 b2 b3 b4 b5 b6 b7) 4 = b4 ∧ bitb (wb8 b0 b1 b2 b3 b4 b5 b6 b7) 5 = b5 ∧ bitb (wb8 b0 b1 b2 b3 b4 b5 b6 b7) 6 = b6 ∧ bitb (wb8 b0 b1 b2 b3 b4 b5 b6 b7) 7 = b7) := by decide +kernel
theorem bit_wb (f : Nat → Bool) {k : Nat} (h : k < 8) : bitb (wb f) k = f k := by
  have := bit8 (f 0) (f 1) (f 2) (f 3) (f 4) (f 5) (f 6) (f 7)
  match k, h with
  | 0, _ => exact this.1.1
  | 1, _ => exact this.1.2.1
  | 2, _ => exact this.1.2.2.1
  | 3, _ => exact this.1.2.2.2
  | 4, _ => exact this.2.1
  | 5, _ => exact this.2.2.1
  | 6, _ => exact this.2.2.2.1
  | 7, _ => exact this.2.2.2.2
  | k + 8, h => exact absurd h (by omega)
theorem on8 : ∀ b0 b1 b2 b3 b4 b5 b6 b7 : Bool, (wb8 b0 b1 b2 b3 b4 b5 b6 b7 ||| (1 <<< (nI 0 &&& 31)) = wb8 true b1 b2 b3 b4 b5 b6 b7 ∧ wb8 b0 b1 b2 b3 b4 b5 b6 b7 ||| (1 <<< (nI 1 &&& 31)) = wb8 b0 true b2 b3 b4 b5 b6 b7 ∧ wb8 b0 b1 b2 b3 b4 b5 b6 b7 ||| (1 <<< (nI 2 &&& 31)) = wb8 b0 b1 true b3 b4 b5 b6 b7 ∧ wb8 b0 b1 b2 b3 b4 b5 b6 b7 ||| (1 <<< (nI 3 &&& 31)) = wb8 b0 b1 b2 true b4 b5 b6 b7) ∧ (wb8 b0 b1 b2 b3 b4 b5 b6 b7 ||| (1 <<< (nI 4 &&& 31)) = wb8 b0 b1 b2 b3 true b5 b6 b7 ∧ wb8 b0 b1 b2 b3 b4 b5 b6 b7 ||| (1 <<< (nI 5 &&& 31)) = wb8 b0 b1 b2 b3 b4 true b6 b7 ∧ wb8 b0 b1 b2 b3 b4 b5 b6 b7 ||| (1 <<< (nI 6 &&& 31)) = wb8 b0 b1 b2 b3 b4 b5 true b7 ∧ wb8 b0 b1 b2 b3 b4 b5 b6 b7 ||| (1 <<< (nI 7 &&& 31)) = wb8 b0 b1 b2 b3 b4 b5 b6 true) := by decide +kernel
theorem wb_on (f : Nat → Bool) {k : Nat} (h : k < 8) : wb f ||| (1 <<< (nI k &&& 31)) = wb (updB f k true) := by
  have := on8 (f 0) (f 1) (f 2) (f 3) (f 4) (f 5) (f 6) (f 7)
  match k, h with
  | 0, _ => exact this.1.1
  | 1, _ => exact this.1.2.1
  | 2, _ => exact this.1.2.2.1
  | 3, _ => exact this.1.2.2.2
  | 4, _ => exact this.2.1
  | 5, _ => exact this.2.2.1
  | 6, _ => exact this.2.2.2.1
  | 7, _ => exact this.2.2.2.2
  | k + 8, h => exact absurd h (by omega)
theorem off8 : ∀ b0 b1 b2 b3 b4 b5 b6 b7 : Bool, (wb8 b0 b1 b2 b3 b4 b5 b6 b7 &&& ((1 <<< (nI 0 &&& 31)) ^^^ (-1)) = wb8 false b1 b2 b3 b4 b5 b6 b7 ∧ wb8 b0 b1 b2 b3 b4 b5 b6 b7 &&& ((1 <<< (nI 1 &&& 31)) ^^^ (-1)) = wb8 b0 false b2 b3 b4 b5 b6 b7 ∧ wb8 b0 b1 b2 b3 b4 b5 b6 b7 &&& ((1 <<< (nI 2 &&& 31)) ^^^ (-1)) = wb8 b0 b1 false b3 b4 b5 b6 b7 ∧ wb8 b0 b1 b2 b3 b4 b5 b6 b7 &&& ((1 <<< (nI 3 &&& 31)) ^^^ (-1)) = wb8 b0 b1 b2 false b4 b5 b6 b7) ∧ (wb8 b0 b1 b2 b3 b4 b5 b6 b7 &&& ((1 <<< (nI 4 &&& 31)) ^^^ (-1)) = wb8 b0 b1 b2 b3 false b5 b6 b7 ∧ wb8 b0 b1 b2 b3 b4 b5 b6 b7 &&& ((1 <<< (nI 5 &&& 31)) ^^^ (-1)) = wb8 b0 b1 b2 b3 b4 false b6 b7 ∧ wb8 b0 b1 b2 b3 b4 b5 b6 b7 &&& ((1 <<< (nI 6 &&& 31)) ^^^ (-1)) = wb8 b0 b1 b2 b3 b4 b5 false b7 ∧ wb8 b0 b1 b2 b3 b4 b5 b6 b7 &&& ((1 <<< (nI 7 &&& 31)) ^^^ (-1)) = wb8 b0 b1 b2 b3 b4 b5 b6 false) := by decide +kernel
theorem wb_off (f : Nat → Bool) {k : Nat} (h : k < 8) : wb f &&& ((1 <<< (nI k &&& 31)) ^^^ (-1)) = wb (updB f k false) := by
  have := off8 (f 0) (f 1) (f 2) (f 3) (f 4) (f 5) (f 6) (f 7)
  match k, h with
  | 0, _ => exact this.1.1
  | 1, _ => exact this.1.2.1
  | 2, _ => exact this.1.2.2.1
  | 3, _ => exact this.1.2.2.2
  | 4, _ => exact this.2.1
  | 5, _ => exact this.2.2.1
  | 6, _ => exact this.2.2.2.1
  | 7, _ => exact this.2.2.2.2
  | k + 8, h => exact absurd h (by omega)
theorem th8 : ∀ n, n < 9 → ∀ b0 b1 b2 b3 b4 b5 b6 b7 : Bool, ((1 <<< (nI n &&& 31)) - 1) &&& (wb8 b0 b1 b2 b3 b4 b5 b6 b7 ^^^ (-1)) = wb8 (decide (0 < n) && !b0) (decide (1 < n) && !b1) (decide (2 < n) && !b2) (decide (3 < n) && !b3) (decide (4 < n) && !b4) (decide (5 < n) && !b5) (decide (6 < n) && !b6) (decide (7 < n) && !b7) := by decide +kernel
theorem wb_there (g : Nat → Bool) {n : Nat} (h : n ≤ 8) : ((1 <<< (nI n &&& 31)) - 1) &&& (wb g ^^^ (-1)) = wb (fun p => decide (p < n) && !g p) := th8 n (by omega) (g 0) (g 1) (g 2) (g 3) (g 4) (g 5) (g 6) (g 7)
theorem shF_get (K : Nat → Nat → Int32) {p b : Nat} (hb : b < 8) : shF K (p * 8 + b) = K p b := by
  unfold shF
  rw [show (p * 8 + b) / 8 = p by omega, show (p * 8 + b) % 8 = b by omega]
theorem shF_put (K : Nat → Nat → Int32) {p b : Nat} (hb : b < 8) (v : Int32) : upd (shF K) (p * 8 + b) v = shF (updM K p b v) := by
  funext i
  unfold shF updM upd
  by_cases h : i = p * 8 + b
  · subst h
    rw [if_pos rfl, show (p * 8 + b) / 8 = p by omega, show (p * 8 + b) % 8 = b by omega, if_pos rfl]
    exact (if_pos rfl).symm
  · rw [if_neg h]
    by_cases h2 : i / 8 = p
    · rw [if_pos h2, if_neg (by omega)]
      show K (i / 8) (i % 8) = K p (i % 8)
      rw [h2]
    · rw [if_neg h2]
theorem ix8 {p b : Nat} (hp : p < 8) (hb : b < 8) : nI p * 8 + nI b = nI (p * 8 + b) := by
  rw [show (8 : Int32) = nI 8 from rfl, pk_mul, nI_add]
theorem in64 {p b : Nat} (hp : p < 8) (hb : b < 8) : vp_in (nI p * 8 + nI b) 64 := by
  rw [ix8 hp hb]
  exact vp_in_nI (by omega) (by omega)
theorem cl64 {p b : Nat} (hp : p < 8) (hb : b < 8) : (nI p * 8 + nI b).toNatClampNeg = p * 8 + b := by
  rw [ix8 hp hb]
  exact nI_clamp (by omega)
theorem cl8 {k : Nat} (h : k < 8) : (nI k).toNatClampNeg = k := nI_clamp (by omega)
theorem in8 {k : Nat} (h : k < 8) : vp_in (nI k) 8 := vp_in_nI h (by omega)
/-- what is known, would be known -/
def gdF (need : Int32) (k : Nat → Int32) : Nat → Int32
  | 0 => 1000
  | n + 1 => if bitb need n = true ∧ k n < gdF need k n then k n else gdF need k n
def zgd (t : TA) (p b : Nat) : Int32 := gdF (T_ne t b) (T_kn t p) b
def zgr (o g : Int32) : Int32 := o * (g + 1000) / 2000
def zwk (t : TA) (p b : Nat) : Int32 := mx (zgr (T_go t b * T_re t p / 10) (zgd t p b)) (T_kn t p b)
def gA (pr : Nat → Bool) (k : Nat → Int32) : Nat → Int32
  | 0 => 0
  | n + 1 => if pr n = true then mx (gA pr k n) (k n) else gA pr k n
def mkn (t : TA) (b : Nat) (s : Int32) : Int32 := gA (bitb s) (fun p => T_kn t p b) (T_np t)
def wsum (f : Nat → Int32) : Nat → Int32
  | 0 => 0
  | n + 1 => wsum f n + f n
def waF (t : TA) (s : Int32) : Int32 := wsum (fun b => T_wo t b * mkn t b s) (T_nb t)
def zthere (t : TA) : Int32 := wb (fun p => decide (p < T_np t) && !T_gn t p)
def zval (t : TA) : Int32 := waF t (zthere t)
def orF (f : Nat → Bool) : Nat → Int32
  | 0 => 0
  | n + 1 => if f n = true then orF f n ||| (1 <<< (nI n &&& 31)) else orF f n
def bkn (t : TA) (s v : Int32) : Int32 := orF (fun b => decide (v ≤ mkn t b s)) (T_nb t)
def zgt (t : TA) (p o b : Nat) : Int32 := mx 0 (T_kn t p b * T_te t p / 10 - T_kn t o b)
def rdT (t : TA) (p b : Nat) : TA := T_setwh (T_setkn t (updM (T_kn t) p b (zwk t p b))) (updB (T_wh t) b true)
