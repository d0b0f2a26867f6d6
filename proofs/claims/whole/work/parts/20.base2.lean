/-! the worlds: a kitchen, the class, the reference; their states are rows of numbers -/
def kS (K : Nat → Nat → Int32) (a : Nat) (r : Nat → Int32) : Nat → Nat → Int32 := fun b => if b = a then r else K b
def kLS (K : Nat → Nat → Int64) (a : Nat) (r : Nat → Int64) : Nat → Nat → Int64 := fun b => if b = a then r else K b
def kR (K : Nat → Nat → Int32) (j : Nat) : Nat → Nat → Int32 := fun r => K (10 * j + r)
def kP (K : Nat → Nat → Int32) (j : Nat) (K1 : Nat → Nat → Int32) : Nat → Nat → Int32 := fun a => if 10 * j ≤ a ∧ a < 10 * j + 10 then K1 (a - 10 * j) else K a
def yP (y : Nat → Nat → Nat) (j : Nat) (y1 : Nat → Nat) : Nat → Nat → Nat := fun i => if i = j then y1 else y i
def wK (g : gE) (b y : Nat → Nat) (K : Nat → Nat → Int32) : va_W :=
 [((b 0), .inr (1, [.ref (b 1), .int (K 0 0), .int (K 0 1), .ref (b 2), .ref (b 3), .int (K 0 2), .ref (b 4), .int (K 0 3), .ref (b 5), .int (K 0 4)])),
  ((b 1), .inl (g.2.1 2, 5, .inr (.inr (.inr (.inr (fun i => some (y i))))))),
  ((b 2), .inl (g.2.1 0, 8, .inl (K 1))),
  ((b 3), .inl (g.2.1 0, 8, .inl (K 2))),
  ((b 4), .inl (g.2.1 0, 4, .inl (K 3))),
  ((b 5), .inl (g.2.1 0, 4, .inl (K 4))),
  ((y 0), .inr (0, [.int (K 5 0), .int (K 6 0), .int (K 7 0), .int (K 8 0)])),
  ((y 1), .inr (0, [.int (K 5 1), .int (K 6 1), .int (K 7 1), .int (K 8 1)])),
  ((y 2), .inr (0, [.int (K 5 2), .int (K 6 2), .int (K 7 2), .int (K 8 2)])),
  ((y 3), .inr (0, [.int (K 5 3), .int (K 6 3), .int (K 7 3), .int (K 8 3)])),
  ((y 4), .inr (0, [.int (K 5 4), .int (K 6 4), .int (K 7 4), .int (K 8 4)]))]
def wKD (g : gE) (b y si : Nat → Nat) (K : Nat → Nat → Int32) : va_W :=
 [((b 0), .inr (1, [.ref (b 1), .int (K 0 0), .int (K 0 1), .ref (b 2), .ref (b 3), .int (K 0 2), .ref (b 4), .int (K 0 3), .ref (b 5), .int (K 0 4)])),
  ((b 1), .inl (g.2.1 2, 5, .inr (.inr (.inr (.inr (fun i => some (y (si i)))))))),
  ((b 2), .inl (g.2.1 0, 8, .inl (K 1))),
  ((b 3), .inl (g.2.1 0, 8, .inl (K 2))),
  ((b 4), .inl (g.2.1 0, 4, .inl (K 3))),
  ((b 5), .inl (g.2.1 0, 4, .inl (K 4))),
  ((y 0), .inr (0, [.int (K 5 0), .int (K 6 0), .int (K 7 0), .int (K 8 0)])),
  ((y 1), .inr (0, [.int (K 5 1), .int (K 6 1), .int (K 7 1), .int (K 8 1)])),
  ((y 2), .inr (0, [.int (K 5 2), .int (K 6 2), .int (K 7 2), .int (K 8 2)])),
  ((y 3), .inr (0, [.int (K 5 3), .int (K 6 3), .int (K 7 3), .int (K 8 3)])),
  ((y 4), .inr (0, [.int (K 5 4), .int (K 6 4), .int (K 7 4), .int (K 8 4)]))]
def wKK (g : gE) (b y : Nat → Nat) (K : Nat → Nat → Int32) (b2 y2 : Nat → Nat) (K2 : Nat → Nat → Int32) : va_W :=
 [((b 0), .inr (1, [.ref (b 1), .int (K 0 0), .int (K 0 1), .ref (b 2), .ref (b 3), .int (K 0 2), .ref (b 4), .int (K 0 3), .ref (b 5), .int (K 0 4)])),
  ((b 1), .inl (g.2.1 2, 5, .inr (.inr (.inr (.inr (fun i => some (y i))))))),
  ((b 2), .inl (g.2.1 0, 8, .inl (K 1))),
  ((b 3), .inl (g.2.1 0, 8, .inl (K 2))),
  ((b 4), .inl (g.2.1 0, 4, .inl (K 3))),
  ((b 5), .inl (g.2.1 0, 4, .inl (K 4))),
  ((y 0), .inr (0, [.int (K 5 0), .int (K 6 0), .int (K 7 0), .int (K 8 0)])),
  ((y 1), .inr (0, [.int (K 5 1), .int (K 6 1), .int (K 7 1), .int (K 8 1)])),
  ((y 2), .inr (0, [.int (K 5 2), .int (K 6 2), .int (K 7 2), .int (K 8 2)])),
  ((y 3), .inr (0, [.int (K 5 3), .int (K 6 3), .int (K 7 3), .int (K 8 3)])),
  ((y 4), .inr (0, [.int (K 5 4), .int (K 6 4), .int (K 7 4), .int (K 8 4)])),
  ((b2 0), .inr (1, [.ref (b2 1), .int (K2 0 0), .int (K2 0 1), .ref (b2 2), .ref (b2 3), .int (K2 0 2), .ref (b2 4), .int (K2 0 3), .ref (b2 5), .int (K2 0 4)])),
  ((b2 1), .inl (g.2.1 2, 5, .inr (.inr (.inr (.inr (fun i => some (y2 i))))))),
  ((b2 2), .inl (g.2.1 0, 8, .inl (K2 1))),
  ((b2 3), .inl (g.2.1 0, 8, .inl (K2 2))),
  ((b2 4), .inl (g.2.1 0, 4, .inl (K2 3))),
  ((b2 5), .inl (g.2.1 0, 4, .inl (K2 4))),
  ((y2 0), .inr (0, [.int (K2 5 0), .int (K2 6 0), .int (K2 7 0), .int (K2 8 0)])),
  ((y2 1), .inr (0, [.int (K2 5 1), .int (K2 6 1), .int (K2 7 1), .int (K2 8 1)])),
  ((y2 2), .inr (0, [.int (K2 5 2), .int (K2 6 2), .int (K2 7 2), .int (K2 8 2)])),
  ((y2 3), .inr (0, [.int (K2 5 3), .int (K2 6 3), .int (K2 7 3), .int (K2 8 3)])),
  ((y2 4), .inr (0, [.int (K2 5 4), .int (K2 6 4), .int (K2 7 4), .int (K2 8 4)]))]
def wC (g : gE) (b : Nat → Nat) (y : Nat → Nat → Nat) (S : (Nat → Nat → Int32) × (Nat → Nat → Int64)) : va_W :=
 [((b 0), .inr (3, [.ref (b 1), .ref (b 7), .ref (b 13), .int (S.1 30 0), .ref (b 19), .int (S.1 30 1), .ref (b 20), .int (S.1 30 2), .ref (b 21), .ref (b 22), .ref (b 23), .ref (b 24), .ref (b 25), .ref (b 26)])),
  ((b 1), .inr (1, [.ref (b 2), .int (S.1 0 0), .int (S.1 0 1), .ref (b 3), .ref (b 4), .int (S.1 0 2), .ref (b 5), .int (S.1 0 3), .ref (b 6), .int (S.1 0 4)])),
  ((b 2), .inl (g.2.1 2, 5, .inr (.inr (.inr (.inr (fun i => some (y 0 i))))))),
  ((b 3), .inl (g.2.1 0, 8, .inl (S.1 1))),
  ((b 4), .inl (g.2.1 0, 8, .inl (S.1 2))),
  ((b 5), .inl (g.2.1 0, 4, .inl (S.1 3))),
  ((b 6), .inl (g.2.1 0, 4, .inl (S.1 4))),
  ((y 0 0), .inr (0, [.int (S.1 5 0), .int (S.1 6 0), .int (S.1 7 0), .int (S.1 8 0)])),
  ((y 0 1), .inr (0, [.int (S.1 5 1), .int (S.1 6 1), .int (S.1 7 1), .int (S.1 8 1)])),
  ((y 0 2), .inr (0, [.int (S.1 5 2), .int (S.1 6 2), .int (S.1 7 2), .int (S.1 8 2)])),
  ((y 0 3), .inr (0, [.int (S.1 5 3), .int (S.1 6 3), .int (S.1 7 3), .int (S.1 8 3)])),
  ((y 0 4), .inr (0, [.int (S.1 5 4), .int (S.1 6 4), .int (S.1 7 4), .int (S.1 8 4)])),
  ((b 7), .inr (1, [.ref (b 8), .int (S.1 10 0), .int (S.1 10 1), .ref (b 9), .ref (b 10), .int (S.1 10 2), .ref (b 11), .int (S.1 10 3), .ref (b 12), .int (S.1 10 4)])),
  ((b 8), .inl (g.2.1 2, 5, .inr (.inr (.inr (.inr (fun i => some (y 1 i))))))),
  ((b 9), .inl (g.2.1 0, 8, .inl (S.1 11))),
  ((b 10), .inl (g.2.1 0, 8, .inl (S.1 12))),
  ((b 11), .inl (g.2.1 0, 4, .inl (S.1 13))),
  ((b 12), .inl (g.2.1 0, 4, .inl (S.1 14))),
  ((y 1 0), .inr (0, [.int (S.1 15 0), .int (S.1 16 0), .int (S.1 17 0), .int (S.1 18 0)])),
  ((y 1 1), .inr (0, [.int (S.1 15 1), .int (S.1 16 1), .int (S.1 17 1), .int (S.1 18 1)])),
  ((y 1 2), .inr (0, [.int (S.1 15 2), .int (S.1 16 2), .int (S.1 17 2), .int (S.1 18 2)])),
  ((y 1 3), .inr (0, [.int (S.1 15 3), .int (S.1 16 3), .int (S.1 17 3), .int (S.1 18 3)])),
  ((y 1 4), .inr (0, [.int (S.1 15 4), .int (S.1 16 4), .int (S.1 17 4), .int (S.1 18 4)])),
  ((b 13), .inr (1, [.ref (b 14), .int (S.1 20 0), .int (S.1 20 1), .ref (b 15), .ref (b 16), .int (S.1 20 2), .ref (b 17), .int (S.1 20 3), .ref (b 18), .int (S.1 20 4)])),
  ((b 14), .inl (g.2.1 2, 5, .inr (.inr (.inr (.inr (fun i => some (y 2 i))))))),
  ((b 15), .inl (g.2.1 0, 8, .inl (S.1 21))),
  ((b 16), .inl (g.2.1 0, 8, .inl (S.1 22))),
  ((b 17), .inl (g.2.1 0, 4, .inl (S.1 23))),
  ((b 18), .inl (g.2.1 0, 4, .inl (S.1 24))),
  ((y 2 0), .inr (0, [.int (S.1 25 0), .int (S.1 26 0), .int (S.1 27 0), .int (S.1 28 0)])),
  ((y 2 1), .inr (0, [.int (S.1 25 1), .int (S.1 26 1), .int (S.1 27 1), .int (S.1 28 1)])),
  ((y 2 2), .inr (0, [.int (S.1 25 2), .int (S.1 26 2), .int (S.1 27 2), .int (S.1 28 2)])),
  ((y 2 3), .inr (0, [.int (S.1 25 3), .int (S.1 26 3), .int (S.1 27 3), .int (S.1 28 3)])),
  ((y 2 4), .inr (0, [.int (S.1 25 4), .int (S.1 26 4), .int (S.1 27 4), .int (S.1 28 4)])),
  ((b 19), .inl (g.2.1 0, 96, .inl (S.1 31))),
  ((b 20), .inl (g.2.1 0, 12, .inl (S.1 32))),
  ((b 21), .inl (g.2.1 0, 7, .inl (S.1 33))),
  ((b 22), .inr (0, [.int (S.1 34 0), .int (S.1 34 1), .int (S.1 34 2), .int (S.1 34 3)])),
  ((b 23), .inr (0, [.int (S.1 35 0), .int (S.1 35 1), .int (S.1 35 2), .int (S.1 35 3)])),
  ((b 24), .inr (2, [.ref (b 27)])),
  ((b 25), .inr (2, [.ref (b 28)])),
  ((b 26), .inr (2, [.ref (b 29)])),
  ((b 27), .inl (g.2.1 1, 5, .inr (.inl (S.2 0)))),
  ((b 28), .inl (g.2.1 1, 5, .inr (.inl (S.2 1)))),
  ((b 29), .inl (g.2.1 1, 5, .inr (.inl (S.2 2))))]
def wMr (g : gE) (b : Nat → Nat) (s0 s1 s2 s3 s4 s5 s6 s7 s8 s9 s10 s11 s12 s13 s14 : Int32) (r1 r2 r3 r4 r5 r6 r7 r8 r9 r10 r11 r12 r13 r14 r15 r16 : Nat → Int32) (l0 l1 l2 : Nat → Int64) : va_W :=
 [((b 0), .inr (4, [.ref (b 1), .ref (b 2), .ref (b 3), .ref (b 4), .ref (b 5), .ref (b 6), .ref (b 7), .ref (b 8), .ref (b 9), .int s0, .int s1, .int s2, .int s3, .int s4, .ref (b 10), .ref (b 11), .ref (b 12), .ref (b 13), .int s5, .int s6, .int s7, .ref (b 14), .int s8, .int s9, .int s10, .ref (b 17), .ref (b 18), .ref (b 19), .ref (b 15), .ref (b 16), .int s11, .int s12, .int s13, .int s14])),
  ((b 1), .inl (g.2.1 0, 7, .inl r1)),
  ((b 2), .inl (g.2.1 0, 5, .inl r2)),
  ((b 3), .inl (g.2.1 0, 5, .inl r3)),
  ((b 4), .inl (g.2.1 0, 5, .inl r4)),
  ((b 5), .inl (g.2.1 0, 5, .inl r5)),
  ((b 6), .inl (g.2.1 0, 4, .inl r6)),
  ((b 7), .inl (g.2.1 0, 8, .inl r7)),
  ((b 8), .inl (g.2.1 0, 8, .inl r8)),
  ((b 9), .inl (g.2.1 0, 4, .inl r9)),
  ((b 10), .inl (g.2.1 0, 96, .inl r10)),
  ((b 11), .inl (g.2.1 0, 48, .inl r11)),
  ((b 12), .inl (g.2.1 0, 48, .inl r12)),
  ((b 13), .inl (g.2.1 0, 192, .inl r13)),
  ((b 14), .inl (g.2.1 0, 120, .inl r14)),
  ((b 15), .inl (g.2.1 0, 12, .inl r15)),
  ((b 16), .inl (g.2.1 0, 4, .inl r16)),
  ((b 17), .inl (g.2.1 1, 5, .inr (.inl l0))),
  ((b 18), .inl (g.2.1 1, 5, .inr (.inl l1))),
  ((b 19), .inl (g.2.1 1, 5, .inr (.inl l2)))]
def wM (g : gE) (b : Nat → Nat) (S : (Nat → Nat → Int32) × (Nat → Nat → Int64)) : va_W :=
 wMr g b (S.1 0 0) (S.1 0 1) (S.1 0 2) (S.1 0 3) (S.1 0 4) (S.1 0 5) (S.1 0 6) (S.1 0 7) (S.1 0 8) (S.1 0 9) (S.1 0 10) (S.1 0 11) (S.1 0 12) (S.1 0 13) (S.1 0 14) (S.1 1) (S.1 2) (S.1 3) (S.1 4) (S.1 5) (S.1 6) (S.1 7) (S.1 8) (S.1 9) (S.1 10) (S.1 11) (S.1 12) (S.1 13) (S.1 14) (S.1 15) (S.1 16) (S.2 0) (S.2 1) (S.2 2)
theorem wK_jug {g : gE} {b y : Nat → Nat} {K : Nat → Nat → Int32} {n : Nat} (h : n < 5) : (wK g b y K)[6 + n]? = some (y n, .inr (0, [.int (K 5 n), .int (K 6 n), .int (K 7 n), .int (K 8 n)])) := by
  match n, h with
  | 0, _ => rfl
  | 1, _ => rfl
  | 2, _ => rfl
  | 3, _ => rfl
  | 4, _ => rfl
theorem wC_jug {g : gE} {b : Nat → Nat} {y : Nat → Nat → Nat} {S : (Nat → Nat → Int32) × (Nat → Nat → Int64)} {n : Nat} (h : n < 5) : (wC g b y S)[7 + n]? = some (y 0 n, .inr (0, [.int (S.1 5 n), .int (S.1 6 n), .int (S.1 7 n), .int (S.1 8 n)])) := by
  match n, h with
  | 0, _ => rfl
  | 1, _ => rfl
  | 2, _ => rfl
  | 3, _ => rfl
  | 4, _ => rfl
theorem wK_j3 {g : gE} {b y : Nat → Nat} {K : Nat → Nat → Int32} {n : Nat} (h : n < 5) {p : Int32} : wPut (wK g b y K) [6 + n] [(y n, .inr (0, [.int (K 5 n), .int (K 6 n), .int (K 7 n), .int p]))] = wK g b y (kS K 8 (upd (K 8) n p)) := by
  match n, h with
  | 0, _ => rfl
  | 1, _ => rfl
  | 2, _ => rfl
  | 3, _ => rfl
  | 4, _ => rfl
theorem wK_j2 {g : gE} {b y : Nat → Nat} {K : Nat → Nat → Int32} {n : Nat} (h : n < 5) {p : Int32} : (wK g b y K).set (6 + n) (y n, .inr (0, [.int (K 5 n), .int (K 6 n), .int p, .int (K 8 n)])) = wK g b y (kS K 7 (upd (K 7) n p)) := by
  match n, h with
  | 0, _ => rfl
  | 1, _ => rfl
  | 2, _ => rfl
  | 3, _ => rfl
  | 4, _ => rfl
theorem wK_j0123 {g : gE} {b y : Nat → Nat} {K : Nat → Nat → Int32} {n : Nat} (h : n < 5) {p q r s : Int32} : wPut (wK g b y K) [6 + n] [(y n, .inr (0, [.int p, .int q, .int r, .int s]))] = wK g b y (kS (kS (kS (kS K 5 (upd (K 5) n p)) 6 (upd (K 6) n q)) 7 (upd (K 7) n r)) 8 (upd (K 8) n s)) := by
  match n, h with
  | 0, _ => rfl
  | 1, _ => rfl
  | 2, _ => rfl
  | 3, _ => rfl
  | 4, _ => rfl
theorem wC_j3 {g : gE} {b : Nat → Nat} {y : Nat → Nat → Nat} {S : (Nat → Nat → Int32) × (Nat → Nat → Int64)} {n : Nat} (h : n < 5) {p : Int32} : wPut (wC g b y S) [7 + n] [(y 0 n, .inr (0, [.int (S.1 5 n), .int (S.1 6 n), .int (S.1 7 n), .int p]))] = wC g b y (kS S.1 8 (upd (S.1 8) n p), S.2) := by
  match n, h with
  | 0, _ => rfl
  | 1, _ => rfl
  | 2, _ => rfl
  | 3, _ => rfl
  | 4, _ => rfl
theorem wKD_jug {g : gE} {b y s : Nat → Nat} {K : Nat → Nat → Int32} {n : Nat} (h : n < 5) : (wKD g b y s K)[6 + n]? = some (y n, .inr (0, [.int (K 5 n), .int (K 6 n), .int (K 7 n), .int (K 8 n)])) := by
  match n, h with
  | 0, _ => rfl
  | 1, _ => rfl
  | 2, _ => rfl
  | 3, _ => rfl
  | 4, _ => rfl
theorem up_ys {y s : Nat → Nat} {k j : Nat} : va_up (fun i => some (y (s i))) k (some (y j)) = fun i => some (y (va_up s k j i)) := by
  funext i
  unfold va_up
  by_cases h : i = k <;> simp [h]
theorem wKD_up {g : gE} {b y s : Nat → Nat} {K : Nat → Nat → Int32} {k j : Nat} : (wKD g b y s K).set 1 (b 1, .inl (g.2.1 2, 5, .inr (.inr (.inr (.inr (va_up (fun i => some (y (s i))) k (some (y j)))))))) = wKD g b y (va_up s k j) K := by
  rw [up_ys]
  rfl
theorem wKK_jug {g : gE} {b y : Nat → Nat} {K : Nat → Nat → Int32} {b2 y2 : Nat → Nat} {K2 : Nat → Nat → Int32} {n : Nat} (h : n < 5) : (wKK g b y K b2 y2 K2)[6 + n]? = some (y n, .inr (0, [.int (K 5 n), .int (K 6 n), .int (K 7 n), .int (K 8 n)])) := by
  match n, h with
  | 0, _ => rfl
  | 1, _ => rfl
  | 2, _ => rfl
  | 3, _ => rfl
  | 4, _ => rfl
theorem wKK_jug1 {g : gE} {b y : Nat → Nat} {K : Nat → Nat → Int32} {b2 y2 : Nat → Nat} {K2 : Nat → Nat → Int32} {n : Nat} (h : n < 5) : (wKK g b y K b2 y2 K2)[17 + n]? = some (y2 n, .inr (0, [.int (K2 5 n), .int (K2 6 n), .int (K2 7 n), .int (K2 8 n)])) := by
  match n, h with
  | 0, _ => rfl
  | 1, _ => rfl
  | 2, _ => rfl
  | 3, _ => rfl
  | 4, _ => rfl
theorem wKK_j0 {g : gE} {b y : Nat → Nat} {K : Nat → Nat → Int32} {b2 y2 : Nat → Nat} {K2 : Nat → Nat → Int32} {n : Nat} (h : n < 5) {p q r s : Int32} : (wKK g b y K b2 y2 K2).set (6 + n) (y n, .inr (0, [.int p, .int q, .int r, .int s])) = wKK g b y (kS (kS (kS (kS K 5 (upd (K 5) n p)) 6 (upd (K 6) n q)) 7 (upd (K 7) n r)) 8 (upd (K 8) n s)) b2 y2 K2 := by
  match n, h with
  | 0, _ => rfl
  | 1, _ => rfl
  | 2, _ => rfl
  | 3, _ => rfl
  | 4, _ => rfl
theorem wKK_same {g : gE} {b y : Nat → Nat} {K : Nat → Nat → Int32} {b2 y2 : Nat → Nat} {K2 : Nat → Nat → Int32} {n : Nat} (h : n < 5) : (wKK g b y K b2 y2 K2).set (17 + n) (y2 n, .inr (0, [.int (K2 5 n), .int (K2 6 n), .int (K2 7 n), .int (K2 8 n)])) = wKK g b y K b2 y2 K2 := by
  match n, h with
  | 0, _ => rfl
  | 1, _ => rfl
  | 2, _ => rfl
  | 3, _ => rfl
  | 4, _ => rfl
theorem wKK_j0123 {g : gE} {b y : Nat → Nat} {K : Nat → Nat → Int32} {b2 y2 : Nat → Nat} {K2 : Nat → Nat → Int32} {n m : Nat} (h : n < 5) (h2 : m < 5) {p q r s : Int32} : wPut (wKK g b y K b2 y2 K2) [6 + n, 17 + m] [(y n, .inr (0, [.int p, .int q, .int r, .int s])), (y2 m, .inr (0, [.int (K2 5 m), .int (K2 6 m), .int (K2 7 m), .int (K2 8 m)]))] = wKK g b y (kS (kS (kS (kS K 5 (upd (K 5) n p)) 6 (upd (K 6) n q)) 7 (upd (K 7) n r)) 8 (upd (K 8) n s)) b2 y2 K2 := by
  show ((wKK g b y K b2 y2 K2).set (6 + n) _).set (17 + m) _ = _
  rw [wKK_j0 h, wKK_same h2]
theorem rg_C {ws : va_W} : (List.range ws.length).map (fun i => ws[i]?) = ws.map some := by
  apply List.ext_getElem
  · simp
  · intro i h1 h2
    simp
theorem rg_n {n : Nat} : va_nd (List.range n) = true := by
  have key : ∀ ks : List Nat, ks.Nodup → va_nd ks = true := by
    intro ks
    induction ks with
    | nil => intro _; rfl
    | cons a l ih =>
      intro h
      have h2 := List.nodup_cons.mp h
      simp only [va_nd, Bool.and_eq_true, decide_eq_true_eq]
      exact ⟨h2.1, ih h2.2⟩
  exact key _ List.nodup_range
theorem wPut_none : ∀ (ks : List Nat) (w1 ws : va_W) (i : Nat), i ∉ ks → (wPut ws ks w1)[i]? = ws[i]?
  | [], w1, ws, i, _ => by simp [wPut]
  | _ :: _, [], ws, i, _ => by simp [wPut]
  | k :: ks, q :: w1, ws, i, h => by
    simp only [List.mem_cons, not_or] at h
    rw [wPut, wPut_none ks w1 _ i h.2, List.getElem?_set_ne (fun z => h.1 z.symm)]
theorem rg_put {ws w1 : va_W} (h : w1.length = ws.length) : wPut ws (List.range ws.length) w1 = w1 := by
  apply List.ext_getElem?
  intro i
  have hl := wPut_len (List.range ws.length) w1 ws
  by_cases hi : i < ws.length
  · obtain ⟨q, hq⟩ : ∃ q, (wPut ws (List.range ws.length) w1)[i]? = some q := ⟨_, List.getElem?_eq_getElem (by omega)⟩
    rcases wPut_get _ _ _ i q List.nodup_range (by simp [h]) hq with ⟨j, h1, h2⟩ | ⟨h1, h2⟩
    · have hj : j < (List.range ws.length).length := (List.getElem?_eq_some_iff.mp h1).1
      have e : j = i := by
        have := (List.getElem?_eq_some_iff.mp h1).2
        simpa using this
      subst e
      rw [hq, h2]
    · exact absurd (List.mem_range.mpr hi) h1
  · rw [List.getElem?_eq_none (by omega), List.getElem?_eq_none (by omega)]
theorem rg_len {ws w1 : va_W} (h : w1.length = ws.length) : (List.range ws.length).length = w1.length := by simp [h]
theorem wC_jid {g : gE} {b : Nat → Nat} {y : Nat → Nat → Nat} {S : (Nat → Nat → Int32) × (Nat → Nat → Int64)} {n : Nat} (h : n < 5) : (wC g b y S).set (7 + n) (y 0 n, .inr (0, [.int (S.1 5 n), .int (S.1 6 n), .int (S.1 7 n), .int (S.1 8 n)])) = wC g b y S := by
  match n, h with
  | 0, _ => rfl
  | 1, _ => rfl
  | 2, _ => rfl
  | 3, _ => rfl
  | 4, _ => rfl
theorem wC_jl {g : gE} {b : Nat → Nat} {y : Nat → Nat → Nat} {S : (Nat → Nat → Int32) × (Nat → Nat → Int64)} {n : Nat} {ws : va_W} (h : n < 5) (hw : ws = wC g b y S) : ws.set (7 + n) (y 0 n, .inr (0, [.int (S.1 5 n), .int (S.1 6 n), .int (S.1 7 n), .int (S.1 8 n)])) = wC g b y S := by
  rw [hw, wC_jid h]
theorem wC_jl2 {g : gE} {b : Nat → Nat} {y : Nat → Nat → Nat} {S : (Nat → Nat → Int32) × (Nat → Nat → Int64)} {n : Nat} {ws : va_W} {k1 : Nat} {a : Nat × va_E} (h : n < 5) (hw : ws.set k1 a = wC g b y S) : wPut ws [k1, 7 + n] [a, (y 0 n, .inr (0, [.int (S.1 5 n), .int (S.1 6 n), .int (S.1 7 n), .int (S.1 8 n)]))] = wC g b y S := wC_jl h hw
theorem wC_jl3 {g : gE} {b : Nat → Nat} {y : Nat → Nat → Nat} {S : (Nat → Nat → Int32) × (Nat → Nat → Int64)} {n : Nat} {ws : va_W} {k1 k2 : Nat} {a a2 : Nat × va_E} (h : n < 5) (hw : (ws.set k1 a).set k2 a2 = wC g b y S) : wPut ws [k1, k2, 7 + n] [a, a2, (y 0 n, .inr (0, [.int (S.1 5 n), .int (S.1 6 n), .int (S.1 7 n), .int (S.1 8 n)]))] = wC g b y S := wC_jl h hw
theorem wPut_app : ∀ (k1 k2 : List Nat) (w1 w2 ws : va_W), k1.length = w1.length → wPut ws (k1 ++ k2) (w1 ++ w2) = wPut (wPut ws k1 w1) k2 w2
  | [], k2, [], w2, ws, _ => by simp [wPut]
  | [], k2, _ :: _, w2, ws, h => by simp at h
  | _ :: _, k2, [], w2, ws, h => by simp at h
  | k :: k1, k2, q :: w1, w2, ws, h => by
    rw [List.cons_append, List.cons_append, wPut, wPut, wPut_app k1 k2 w1 w2 _ (by simpa using h)]
theorem wC_k0 {g : gE} {b : Nat → Nat} {y : Nat → Nat → Nat} {S : (Nat → Nat → Int32) × (Nat → Nat → Int64)} : ([1, 2, 3, 4, 5, 6, 7, 8, 9, 10, 11] : List Nat).map (fun i => (wC g b y S)[i]?) = (wK g (fun i => b (1 + i)) (y 0) (kR S.1 0)).map some := rfl
theorem wC_p0 {g : gE} {b : Nat → Nat} {y : Nat → Nat → Nat} {S : (Nat → Nat → Int32) × (Nat → Nat → Int64)} {K : Nat → Nat → Int32} : wPut (wC g b y S) [1, 2, 3, 4, 5, 6, 7, 8, 9, 10, 11] (wK g (fun i => b (1 + i)) (y 0) K) = wC g b y (kP S.1 0 K, S.2) := rfl
theorem wC_py0 {g : gE} {b : Nat → Nat} {y : Nat → Nat → Nat} {S : (Nat → Nat → Int32) × (Nat → Nat → Int64)} {K : Nat → Nat → Int32} {y1 : Nat → Nat} : wPut (wC g b y S) [1, 2, 3, 4, 5, 6, 7, 8, 9, 10, 11] (wK g (fun i => b (1 + i)) y1 K) = wC g b (yP y 0 y1) (kP S.1 0 K, S.2) := rfl
theorem wC_k1 {g : gE} {b : Nat → Nat} {y : Nat → Nat → Nat} {S : (Nat → Nat → Int32) × (Nat → Nat → Int64)} : ([12, 13, 14, 15, 16, 17, 18, 19, 20, 21, 22] : List Nat).map (fun i => (wC g b y S)[i]?) = (wK g (fun i => b (7 + i)) (y 1) (kR S.1 1)).map some := rfl
theorem wC_p1 {g : gE} {b : Nat → Nat} {y : Nat → Nat → Nat} {S : (Nat → Nat → Int32) × (Nat → Nat → Int64)} {K : Nat → Nat → Int32} : wPut (wC g b y S) [12, 13, 14, 15, 16, 17, 18, 19, 20, 21, 22] (wK g (fun i => b (7 + i)) (y 1) K) = wC g b y (kP S.1 1 K, S.2) := rfl
theorem wC_py1 {g : gE} {b : Nat → Nat} {y : Nat → Nat → Nat} {S : (Nat → Nat → Int32) × (Nat → Nat → Int64)} {K : Nat → Nat → Int32} {y1 : Nat → Nat} : wPut (wC g b y S) [12, 13, 14, 15, 16, 17, 18, 19, 20, 21, 22] (wK g (fun i => b (7 + i)) y1 K) = wC g b (yP y 1 y1) (kP S.1 1 K, S.2) := rfl
theorem wC_k2 {g : gE} {b : Nat → Nat} {y : Nat → Nat → Nat} {S : (Nat → Nat → Int32) × (Nat → Nat → Int64)} : ([23, 24, 25, 26, 27, 28, 29, 30, 31, 32, 33] : List Nat).map (fun i => (wC g b y S)[i]?) = (wK g (fun i => b (13 + i)) (y 2) (kR S.1 2)).map some := rfl
theorem wC_p2 {g : gE} {b : Nat → Nat} {y : Nat → Nat → Nat} {S : (Nat → Nat → Int32) × (Nat → Nat → Int64)} {K : Nat → Nat → Int32} : wPut (wC g b y S) [23, 24, 25, 26, 27, 28, 29, 30, 31, 32, 33] (wK g (fun i => b (13 + i)) (y 2) K) = wC g b y (kP S.1 2 K, S.2) := rfl
theorem wC_py2 {g : gE} {b : Nat → Nat} {y : Nat → Nat → Nat} {S : (Nat → Nat → Int32) × (Nat → Nat → Int64)} {K : Nat → Nat → Int32} {y1 : Nat → Nat} : wPut (wC g b y S) [23, 24, 25, 26, 27, 28, 29, 30, 31, 32, 33] (wK g (fun i => b (13 + i)) y1 K) = wC g b (yP y 2 y1) (kP S.1 2 K, S.2) := rfl
theorem wKK_eq {g : gE} {b y : Nat → Nat} {K : Nat → Nat → Int32} {b2 y2 : Nat → Nat} {K2 : Nat → Nat → Int32} : wKK g b y K b2 y2 K2 = wK g b y K ++ wK g b2 y2 K2 := rfl
theorem wC_kk10 {g : gE} {b : Nat → Nat} {y : Nat → Nat → Nat} {S : (Nat → Nat → Int32) × (Nat → Nat → Int64)} : ([12, 13, 14, 15, 16, 17, 18, 19, 20, 21, 22, 1, 2, 3, 4, 5, 6, 7, 8, 9, 10, 11] : List Nat).map (fun i => (wC g b y S)[i]?) = (wKK g (fun i => b (7 + i)) (y 1) (kR S.1 1) (fun i => b (1 + i)) (y 0) (kR S.1 0)).map some := rfl
theorem wC_pp10 {g : gE} {b : Nat → Nat} {y : Nat → Nat → Nat} {S : (Nat → Nat → Int32) × (Nat → Nat → Int64)} {K : Nat → Nat → Int32} : wPut (wC g b y S) [12, 13, 14, 15, 16, 17, 18, 19, 20, 21, 22, 1, 2, 3, 4, 5, 6, 7, 8, 9, 10, 11] (wKK g (fun i => b (7 + i)) (y 1) K (fun i => b (1 + i)) (y 0) (kR S.1 0)) = wC g b y (kP S.1 1 K, S.2) := by
  rw [wKK_eq, show ([12, 13, 14, 15, 16, 17, 18, 19, 20, 21, 22, 1, 2, 3, 4, 5, 6, 7, 8, 9, 10, 11] : List Nat) = [12, 13, 14, 15, 16, 17, 18, 19, 20, 21, 22] ++ [1, 2, 3, 4, 5, 6, 7, 8, 9, 10, 11] from rfl, wPut_app _ _ _ _ _ rfl, wC_p1]
  exact wPut_id _ _ _ rfl
theorem wC_kk01 {g : gE} {b : Nat → Nat} {y : Nat → Nat → Nat} {S : (Nat → Nat → Int32) × (Nat → Nat → Int64)} : ([1, 2, 3, 4, 5, 6, 7, 8, 9, 10, 11, 12, 13, 14, 15, 16, 17, 18, 19, 20, 21, 22] : List Nat).map (fun i => (wC g b y S)[i]?) = (wKK g (fun i => b (1 + i)) (y 0) (kR S.1 0) (fun i => b (7 + i)) (y 1) (kR S.1 1)).map some := rfl
theorem wC_pp01 {g : gE} {b : Nat → Nat} {y : Nat → Nat → Nat} {S : (Nat → Nat → Int32) × (Nat → Nat → Int64)} {K : Nat → Nat → Int32} : wPut (wC g b y S) [1, 2, 3, 4, 5, 6, 7, 8, 9, 10, 11, 12, 13, 14, 15, 16, 17, 18, 19, 20, 21, 22] (wKK g (fun i => b (1 + i)) (y 0) K (fun i => b (7 + i)) (y 1) (kR S.1 1)) = wC g b y (kP S.1 0 K, S.2) := by
  rw [wKK_eq, show ([1, 2, 3, 4, 5, 6, 7, 8, 9, 10, 11, 12, 13, 14, 15, 16, 17, 18, 19, 20, 21, 22] : List Nat) = [1, 2, 3, 4, 5, 6, 7, 8, 9, 10, 11] ++ [12, 13, 14, 15, 16, 17, 18, 19, 20, 21, 22] from rfl, wPut_app _ _ _ _ _ rfl, wC_p0]
  exact wPut_id _ _ _ rfl
theorem wC_kk20 {g : gE} {b : Nat → Nat} {y : Nat → Nat → Nat} {S : (Nat → Nat → Int32) × (Nat → Nat → Int64)} : ([23, 24, 25, 26, 27, 28, 29, 30, 31, 32, 33, 1, 2, 3, 4, 5, 6, 7, 8, 9, 10, 11] : List Nat).map (fun i => (wC g b y S)[i]?) = (wKK g (fun i => b (13 + i)) (y 2) (kR S.1 2) (fun i => b (1 + i)) (y 0) (kR S.1 0)).map some := rfl
theorem wC_pp20 {g : gE} {b : Nat → Nat} {y : Nat → Nat → Nat} {S : (Nat → Nat → Int32) × (Nat → Nat → Int64)} {K : Nat → Nat → Int32} : wPut (wC g b y S) [23, 24, 25, 26, 27, 28, 29, 30, 31, 32, 33, 1, 2, 3, 4, 5, 6, 7, 8, 9, 10, 11] (wKK g (fun i => b (13 + i)) (y 2) K (fun i => b (1 + i)) (y 0) (kR S.1 0)) = wC g b y (kP S.1 2 K, S.2) := by
  rw [wKK_eq, show ([23, 24, 25, 26, 27, 28, 29, 30, 31, 32, 33, 1, 2, 3, 4, 5, 6, 7, 8, 9, 10, 11] : List Nat) = [23, 24, 25, 26, 27, 28, 29, 30, 31, 32, 33] ++ [1, 2, 3, 4, 5, 6, 7, 8, 9, 10, 11] from rfl, wPut_app _ _ _ _ _ rfl, wC_p2]
  exact wPut_id _ _ _ rfl
theorem wC_kk02 {g : gE} {b : Nat → Nat} {y : Nat → Nat → Nat} {S : (Nat → Nat → Int32) × (Nat → Nat → Int64)} : ([1, 2, 3, 4, 5, 6, 7, 8, 9, 10, 11, 23, 24, 25, 26, 27, 28, 29, 30, 31, 32, 33] : List Nat).map (fun i => (wC g b y S)[i]?) = (wKK g (fun i => b (1 + i)) (y 0) (kR S.1 0) (fun i => b (13 + i)) (y 2) (kR S.1 2)).map some := rfl
theorem wC_pp02 {g : gE} {b : Nat → Nat} {y : Nat → Nat → Nat} {S : (Nat → Nat → Int32) × (Nat → Nat → Int64)} {K : Nat → Nat → Int32} : wPut (wC g b y S) [1, 2, 3, 4, 5, 6, 7, 8, 9, 10, 11, 23, 24, 25, 26, 27, 28, 29, 30, 31, 32, 33] (wKK g (fun i => b (1 + i)) (y 0) K (fun i => b (13 + i)) (y 2) (kR S.1 2)) = wC g b y (kP S.1 0 K, S.2) := by
  rw [wKK_eq, show ([1, 2, 3, 4, 5, 6, 7, 8, 9, 10, 11, 23, 24, 25, 26, 27, 28, 29, 30, 31, 32, 33] : List Nat) = [1, 2, 3, 4, 5, 6, 7, 8, 9, 10, 11] ++ [23, 24, 25, 26, 27, 28, 29, 30, 31, 32, 33] from rfl, wPut_app _ _ _ _ _ rfl, wC_p0]
  exact wPut_id _ _ _ rfl
theorem wC_len {g : gE} {b : Nat → Nat} {y : Nat → Nat → Nat} {S : (Nat → Nat → Int32) × (Nat → Nat → Int64)} : (wC g b y S).length = 45 := rfl
theorem wM_len {g : gE} {b : Nat → Nat} {S : (Nat → Nat → Int32) × (Nat → Nat → Int64)} : (wM g b S).length = 20 := rfl
theorem wMr_len {g : gE} {b : Nat → Nat} {s0 s1 s2 s3 s4 s5 s6 s7 s8 s9 s10 s11 s12 s13 s14 : Int32} {r1 r2 r3 r4 r5 r6 r7 r8 r9 r10 r11 r12 r13 r14 r15 r16 : Nat → Int32} {l0 l1 l2 : Nat → Int64} : (wMr g b s0 s1 s2 s3 s4 s5 s6 s7 s8 s9 s10 s11 s12 s13 s14 r1 r2 r3 r4 r5 r6 r7 r8 r9 r10 r11 r12 r13 r14 r15 r16 l0 l1 l2).length = 20 := rfl
theorem wK_len {g : gE} {b y : Nat → Nat} {K : Nat → Nat → Int32} : (wK g b y K).length = 11 := rfl
theorem wKD_len {g : gE} {b y s : Nat → Nat} {K : Nat → Nat → Int32} : (wKD g b y s K).length = 11 := rfl
theorem wKK_len {g : gE} {b y b2 y2 : Nat → Nat} {K K2 : Nat → Nat → Int32} : (wKK g b y K b2 y2 K2).length = 22 := rfl
theorem nd_1 {a : Nat} : va_nd [a] = true := by simp [va_nd]
theorem nd_2 {a b : Nat} (h : a ≠ b) : va_nd [a, b] = true := by simp [va_nd, h]
theorem nd_3 {a b c : Nat} (h : a ≠ b) (h2 : a ≠ c) (h3 : b ≠ c) : va_nd [a, b, c] = true := by simp [va_nd, h, h2, h3]
theorem at_in {x : Int32} {N : Nat} (h0 : ¬ x < 0) (h1 : ¬ Int32.ofNat N ≤ x) (hN : N < 2147483648) : vp_in x N := by
  refine vp_in_iff.mpr ⟨?_, ?_⟩
  · have := (not_congr (Int32.lt_iff_toInt_lt (x := x) (y := 0))).mp h0
    simpa using this
  · have := (not_congr (Int32.le_iff_toInt_le (x := Int32.ofNat N) (y := x))).mp h1
    rw [show (Int32.ofNat N).toInt = (N : Int) from nI_toInt hN] at this
    omega
theorem vpin_lt {x : Int32} {n : Nat} (h : vp_in x n) : Int32.toNatClampNeg x < n := by
  have h2 := vp_in_iff.mp h
  show x.toInt.toNat < n
  omega
theorem sTb_len (k : Nat) : (sTb k).length < 2147483648 := by
  unfold sTb
  split <;> decide
theorem look_d {x : Int32} {d : Int} : ∀ (ps : List (Int × Int)), (∀ a ∈ ps.map Prod.fst, ¬ a = x.toInt) → Op.lookupswitch.offset ps d x.toInt = d
  | [], _ => rfl
  | (a, o) :: r, h => by
    rw [Op.lookupswitch.offset_cons, if_neg (h a (by simp))]
    exact look_d r (fun b hb => h b (by simp only [List.map_cons, List.mem_cons]; exact Or.inr hb))
theorem ne_n {x : Int32} : ∀ v ∈ ([] : List Int32), ¬ x = v := fun _ h => absurd h List.not_mem_nil
theorem ne_c {x a : Int32} {l : List Int32} (h : ¬ x = a) (h2 : ∀ v ∈ l, ¬ x = v) : ∀ v ∈ a :: l, ¬ x = v := fun v hv => by
  rcases List.mem_cons.mp hv with hv | hv
  · rw [hv]; exact h
  · exact h2 v hv
section
variable {p : Program} {l : Launch} {e : Env} {R : Room} {s : State} {m : MethodId} {args : Array Value} {below : List Frame} {meth : Method} {c : Code} {Q : State → Prop} {g : gE} {A : Nat → Prop} {cc : ByteArray} {nL : Nat} {Ts : List Cond} {own : String} {cells slots : Nat} {ws : va_W} {lv : List (Option Value)} {st : List Value} {pc : Nat}
theorem g_topI {x y : Int32} (h : x = y) (kk : Gm p l e R s m args below meth c Q g A nL cells slots ws lv (.int y :: st) pc) : Gm p l e R s m args below meth c Q g A nL cells slots ws lv (.int x :: st) pc := h ▸ kk
theorem g_topL {x y : Int64} (h : x = y) (kk : Gm p l e R s m args below meth c Q g A nL cells slots ws lv (.long y :: st) pc) : Gm p l e R s m args below meth c Q g A nL cells slots ws lv (.long x :: st) pc := h ▸ kk
theorem nst (C : Cx p s m args c g A cc nL Ts own) {ix : Nat} {y : MethodName} {host : String} (h : (own, ix, y, host) ∈ nestM) : va_Nw (.methodLinkNest own ix y host) s := C.2.2.2.2.1 _ h
theorem g_tableD (C : Cx p s m args c g A cc nL Ts own) {dflt lo hi : Int} {offs : Array Int} {len : Nat} {x : Int32} (hd : decode cc pc = .ok (.tableswitch dflt lo hi offs, len)) (live : List Int32) (hl : ∀ v ∈ live, ¬ x = v) (hk : (decide ((offs.size : Int) = hi - lo + 1) && (List.range offs.size).all (fun i => decide (Int32.ofInt (lo + (i : Int)) ∈ live) || decide (offs[i]? = some dflt))) = true) (hb : (decide (-2147483648 ≤ lo) && decide (hi < 2147483648)) = true) (n : Nat) (ht : (pc : Int) + dflt = (n : Int)) (kk : Gm p l e R s m args below meth c Q g A nL cells slots ws lv st n) : Gm p l e R s m args below meth c Q g A nL cells slots ws lv (.int x :: st) pc := by
  simp only [Bool.and_eq_true, decide_eq_true_eq] at hk hb
  intro H locs ls hP hD hS h9
  by_cases h1 : x.toInt < lo ∨ hi < x.toInt
  · exact lv_tableOut C.1.1 C.1.2.1 hd h1 ht (kk H locs ls hP hD hS h9)
  · have ha := not_or.mp h1
    have hi2 := List.all_eq_true.mp hk.2 (x.toInt - lo).toNat (List.mem_range.mpr (by omega))
    rw [show lo + (((x.toInt - lo).toNat : Nat) : Int) = x.toInt by omega, Int32.ofInt_toInt] at hi2
    simp only [Bool.or_eq_true, decide_eq_true_eq] at hi2
    rcases hi2 with h2 | h2
    · exact absurd rfl (hl x h2)
    · exact lv_tableIn C.1.1 C.1.2.1 hd ha.1 ha.2 h2 ht (kk H locs ls hP hD hS h9)
theorem g_lookE (C : Cx p s m args c g A cc nL Ts own) {dflt : Int} {ps : Array (Int × Int)} {len : Nat} {x : Int32} (hd : decode cc pc = .ok (.lookupswitch dflt ps, len)) (live : List Int32) (hl : ∀ v ∈ live, ¬ x = v) (hp : ((ps.toList.zip (ps.toList.drop 1)).all (fun (a, next) => a.1 < next.1)) = true) (hm : ps.toList.map Prod.fst = live.map Int32.toInt) (n : Nat) (ht : (pc : Int) + dflt = (n : Int)) (kk : Gm p l e R s m args below meth c Q g A nL cells slots ws lv st n) : Gm p l e R s m args below meth c Q g A nL cells slots ws lv (.int x :: st) pc := fun H locs ls hP hD hS h9 =>
  lv_lookup C.1.1 C.1.2.1 hd hp (look_d ps.toList (fun a ha => by
    rw [hm] at ha
    obtain ⟨v, h1, h2⟩ := List.mem_map.mp ha
    intro h3
    exact hl v h1 (Int32.toInt_inj.mp (h3.symm.trans h2.symm)))) ht (kk H locs ls hP hD hS h9)
theorem g_staticN (C : Cx p s m args c g A cc nL Ts own) {ix : Nat} {host : String} (k : Nat) (hk : k < 4) (hlink : (own, ix, RX3, sNm k, "[I", host) ∈ nestF) (hd : decode cc pc = .ok (.getstatic ix, 3)) (n : Nat) (hn : pc + 3 = n) (kk : Gm p l e R s m args below meth c Q g A nL cells slots ws lv (.ref (g.2.2 k) :: st) n) : Gm p l e R s m args below meth c Q g A nL cells slots ws lv st pc := by
  subst hn
  exact fun H locs ls hP hD hS h9 => va_getsN C.1.1 C.1.2.1 (C.2.2.2.1 k hk).1 hS C.1.2.2.2.1 (va_Nw.use rfl (C.2.2.2.2.2 _ hlink)) (fun _ h9 => h9) hd (kk H locs ls hP hD hS h9)
end
theorem bp_m10 : (Int8.ofInt (-10)).toInt32 = (-10) := by decide
theorem bp_m9 : (Int8.ofInt (-9)).toInt32 = (-9) := by decide
theorem bp_m6 : (Int8.ofInt (-6)).toInt32 = (-6) := by decide
theorem bp_m4 : (Int8.ofInt (-4)).toInt32 = (-4) := by decide
theorem bp_m3 : (Int8.ofInt (-3)).toInt32 = (-3) := by decide
theorem bp_m2 : (Int8.ofInt (-2)).toInt32 = (-2) := by decide
theorem bp_6 : (Int8.ofInt (6)).toInt32 = 6 := by decide
theorem bp_7 : (Int8.ofInt (7)).toInt32 = 7 := by decide
theorem bp_8 : (Int8.ofInt (8)).toInt32 = 8 := by decide
theorem bp_9 : (Int8.ofInt (9)).toInt32 = 9 := by decide
theorem bp_10 : (Int8.ofInt (10)).toInt32 = 10 := by decide
theorem bp_11 : (Int8.ofInt (11)).toInt32 = 11 := by decide
theorem bp_12 : (Int8.ofInt (12)).toInt32 = 12 := by decide
theorem bp_16 : (Int8.ofInt (16)).toInt32 = 16 := by decide
theorem bp_20 : (Int8.ofInt (20)).toInt32 = 20 := by decide
theorem bp_23 : (Int8.ofInt (23)).toInt32 = 23 := by decide
theorem bp_24 : (Int8.ofInt (24)).toInt32 = 24 := by decide
theorem bp_25 : (Int8.ofInt (25)).toInt32 = 25 := by decide
theorem bp_30 : (Int8.ofInt (30)).toInt32 = 30 := by decide
theorem bp_48 : (Int8.ofInt (48)).toInt32 = 48 := by decide
theorem bp_57 : (Int8.ofInt (57)).toInt32 = 57 := by decide
theorem bp_59 : (Int8.ofInt (59)).toInt32 = 59 := by decide
theorem bp_60 : (Int8.ofInt (60)).toInt32 = 60 := by decide
theorem bp_63 : (Int8.ofInt (63)).toInt32 = 63 := by decide
theorem bp_96 : (Int8.ofInt (96)).toInt32 = 96 := by decide
theorem bp_98 : (Int8.ofInt (98)).toInt32 = 98 := by decide
theorem bp_99 : (Int8.ofInt (99)).toInt32 = 99 := by decide
theorem bp_100 : (Int8.ofInt (100)).toInt32 = 100 := by decide
theorem bp_104 : (Int8.ofInt (104)).toInt32 = 104 := by decide
theorem bp_106 : (Int8.ofInt (106)).toInt32 = 106 := by decide
theorem bp_112 : (Int8.ofInt (112)).toInt32 = 112 := by decide
theorem bp_115 : (Int8.ofInt (115)).toInt32 = 115 := by decide
theorem bp_116 : (Int8.ofInt (116)).toInt32 = 116 := by decide
theorem bp_117 : (Int8.ofInt (117)).toInt32 = 117 := by decide
theorem bp_119 : (Int8.ofInt (119)).toInt32 = 119 := by decide
theorem bp_120 : (Int8.ofInt (120)).toInt32 = 120 := by decide
theorem ic_m2 : Int32.ofInt (-2) = (-2) := by decide
theorem ic_m1 : Int32.ofInt (-1) = (-1) := by decide
theorem ic_0 : Int32.ofInt (0) = 0 := by decide
theorem ic_1 : Int32.ofInt (1) = 1 := by decide
theorem ic_2 : Int32.ofInt (2) = 2 := by decide
theorem ic_3 : Int32.ofInt (3) = 3 := by decide
theorem ic_4 : Int32.ofInt (4) = 4 := by decide
theorem ic_5 : Int32.ofInt (5) = 5 := by decide
theorem sp_m2000 : (Int16.ofInt (-2000)).toInt32 = (-2000) := by decide
theorem sp_m1000 : (Int16.ofInt (-1000)).toInt32 = (-1000) := by decide
theorem sp_192 : (Int16.ofInt (192)).toInt32 = 192 := by decide
theorem sp_200 : (Int16.ofInt (200)).toInt32 = 200 := by decide
theorem sp_240 : (Int16.ofInt (240)).toInt32 = 240 := by decide
theorem sp_255 : (Int16.ofInt (255)).toInt32 = 255 := by decide
theorem sp_12345 : (Int16.ofInt (12345)).toInt32 = 12345 := by decide
