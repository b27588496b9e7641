/-! the class's cells (printed by wip/cls.py). Kinds:
0: SleepWork, regions [0]
1: SleepWork$Tape, byte[2000], regions [1]
2: SleepWork$State, int[36], int[6], int[6], int[6], int[6], int[6], int[6], regions [2, 3, 5, 6, 7, 8, 9, 10, 11, 12, 13, 14, 15, 16, 17, 18, 19, 20, 21, 22, 23, 24, 29, 30, 31, 33]
3: SleepWork$Past, State[20], regions [4]
4: SleepWork$Told, int[30], int[30], regions [25]
5: State[3], regions [26]
6: SleepWork$House, int[12], int[12], int[12], int[6], int[6], int[36], int[36], int[36], int[36], int[36], int[36], int[6], SleepWork$Laws, int[6], int[400], int[400], int[32], regions [27, 28]
7: SleepWork$Evening, regions [32]
8: long[0], regions [34]
9: int[37], regions [35]
10: SleepWork$Sleep, SleepWork$Ways, int[64], int[6], int[6], int[6], int[6], int[6], int[6], int[6], regions [36]
11: SleepWork$Reader, SleepWork$Scanner, int[401], int[401], int[401], long[401], long[21], long[8], long[6], long[6], long[6], regions [37]
-/
def c_kds : List Nat := [0, 1, 2, 2, 3, 2, 2, 2, 2, 2, 2, 2, 2, 2, 2, 2, 2, 2, 2, 2, 2, 2, 2, 2, 2, 4, 5, 6, 6, 2, 2, 2, 7, 2, 8, 9, 10, 11]
def c_kind (r : Nat) : Nat := c_kds.getD r 99
def c_lay0 (r : Nat) (p : Nat → Nat) (f : Nat → Int32) (a : Nat → Nat → Int32) (j : Nat → Nat → Int64) : List gE := [.inr (11, [.ref 1024, .ref 2048, .ref 3072, .ref 4096, .ref 25600, .ref 26624, .ref 32768, .ref 37888, .ref (p 8 * 1024), .ref (p 9 * 1024), .int (f 10), .int (f 11)])]
def c_lay1 (r : Nat) (p : Nat → Nat) (f : Nat → Int32) (a : Nat → Nat → Int32) (j : Nat → Nat → Int64) : List gE := [.inr (8, [.ref (r * 1024 + 1), .int (f 1)]), .inl (1, 2000, .inl (a 1))]
def c_lay2 (r : Nat) (p : Nat → Nat) (f : Nat → Int32) (a : Nat → Nat → Int32) (j : Nat → Nat → Int64) : List gE := [.inr (7, [.ref (r * 1024 + 1), .ref (r * 1024 + 2), .ref (r * 1024 + 3), .ref (r * 1024 + 4), .ref (r * 1024 + 5), .ref (r * 1024 + 6), .ref (r * 1024 + 7), .int (f 7), .int (f 8)]), .inl (0, 36, .inl (a 1)), .inl (0, 6, .inl (a 2)), .inl (0, 6, .inl (a 3)), .inl (0, 6, .inl (a 4)), .inl (0, 6, .inl (a 5)), .inl (0, 6, .inl (a 6)), .inl (0, 6, .inl (a 7))]
def c_lay3 (r : Nat) (p : Nat → Nat) (f : Nat → Int32) (a : Nat → Nat → Int32) (j : Nat → Nat → Int64) : List gE := [.inr (3, [.ref (r * 1024 + 1), .int (f 1), .int (f 2)]), .inl (4, 20, .inr (.inr (.inr (.inr fun i => if i < 20 then some ((5 + i) * 1024) else none))))]
def c_lay4 (r : Nat) (p : Nat → Nat) (f : Nat → Int32) (a : Nat → Nat → Int32) (j : Nat → Nat → Int64) : List gE := [.inr (9, [.ref (r * 1024 + 1), .ref (r * 1024 + 2), .int (f 2)]), .inl (0, 30, .inl (a 1)), .inl (0, 30, .inl (a 2))]
def c_lay5 (r : Nat) (p : Nat → Nat) (f : Nat → Int32) (a : Nat → Nat → Int32) (j : Nat → Nat → Int64) : List gE := [.inl (4, 3, .inr (.inr (.inr (.inr fun i => if i < 3 then some ((29 + i) * 1024) else none))))]
def c_lay6 (r : Nat) (p : Nat → Nat) (f : Nat → Int32) (a : Nat → Nat → Int32) (j : Nat → Nat → Int64) : List gE := [.inr (1, [.ref (r * 1024 + 1), .ref (r * 1024 + 2), .ref (r * 1024 + 3), .ref (r * 1024 + 4), .ref (r * 1024 + 5), .ref (r * 1024 + 6), .ref (r * 1024 + 7), .ref (r * 1024 + 8), .ref (r * 1024 + 9), .ref (r * 1024 + 10), .ref (r * 1024 + 11), .ref (r * 1024 + 12), .ref (r * 1024 + 13), .int (f 13), .int (f 14), .int (f 15), .int (f 16), .int (f 17), .int (f 18)]), .inl (0, 12, .inl (a 1)), .inl (0, 12, .inl (a 2)), .inl (0, 12, .inl (a 3)), .inl (0, 6, .inl (a 4)), .inl (0, 6, .inl (a 5)), .inl (0, 36, .inl (a 6)), .inl (0, 36, .inl (a 7)), .inl (0, 36, .inl (a 8)), .inl (0, 36, .inl (a 9)), .inl (0, 36, .inl (a 10)), .inl (0, 36, .inl (a 11)), .inl (0, 6, .inl (a 12)), .inr (2, [.ref (r * 1024 + 14), .ref (r * 1024 + 15), .ref (r * 1024 + 16), .ref (r * 1024 + 17), .int (f 1304)]), .inl (0, 6, .inl (a 14)), .inl (0, 400, .inl (a 15)), .inl (0, 400, .inl (a 16)), .inl (0, 32, .inl (a 17))]
def c_lay7 (r : Nat) (p : Nat → Nat) (f : Nat → Int32) (a : Nat → Nat → Int32) (j : Nat → Nat → Int64) : List gE := [.inr (0, [.ref 36864, .ref 2048, .ref 33792, .ref 25600, .ref (p 4 * 1024), .int (f 5), .int (f 6), .int (f 7), .int (f 8), .ref (p 9), .int (f 10), .int (f 11), .int (f 12), .int (f 13), .ref 35840, .int (f 15)])]
def c_lay8 (r : Nat) (p : Nat → Nat) (f : Nat → Int32) (a : Nat → Nat → Int32) (j : Nat → Nat → Int64) : List gE := [.inl (3, 0, .inr (.inl (j 0)))]
def c_lay9 (r : Nat) (p : Nat → Nat) (f : Nat → Int32) (a : Nat → Nat → Int32) (j : Nat → Nat → Int64) : List gE := [.inl (0, 37, .inl (a 0))]
def c_lay10 (r : Nat) (p : Nat → Nat) (f : Nat → Int32) (a : Nat → Nat → Int32) (j : Nat → Nat → Int64) : List gE := [.inr (6, [.ref (r * 1024 + 1), .ref (r * 1024 + 3), .ref (r * 1024 + 4), .ref (r * 1024 + 5), .ref (r * 1024 + 6), .ref (r * 1024 + 7), .ref (r * 1024 + 8), .ref (r * 1024 + 9), .ref (p 8 * 1024), .ref (p 9 * 1024)]), .inr (10, [.ref (r * 1024 + 2), .int (f 101)]), .inl (0, 64, .inl (a 2)), .inl (0, 6, .inl (a 3)), .inl (0, 6, .inl (a 4)), .inl (0, 6, .inl (a 5)), .inl (0, 6, .inl (a 6)), .inl (0, 6, .inl (a 7)), .inl (0, 6, .inl (a 8)), .inl (0, 6, .inl (a 9))]
def c_lay11 (r : Nat) (p : Nat → Nat) (f : Nat → Int32) (a : Nat → Nat → Int32) (j : Nat → Nat → Int64) : List gE := [.inr (4, [.ref (r * 1024 + 1), .ref (r * 1024 + 7), .ref (r * 1024 + 8), .ref (r * 1024 + 9), .ref (r * 1024 + 10), .ref (p 5 * 1024), .ref (p 6 * 1024), .int (f 7), .int (f 8), .int (f 9), .int (f 10), .int (f 11), .int (f 12), .int (f 13)]), .inr (5, [.ref (r * 1024 + 2), .ref (r * 1024 + 3), .ref (r * 1024 + 4), .ref (r * 1024 + 5), .ref (r * 1024 + 6), .int (f 105)]), .inl (0, 401, .inl (a 2)), .inl (0, 401, .inl (a 3)), .inl (0, 401, .inl (a 4)), .inl (3, 401, .inr (.inl (j 5))), .inl (3, 21, .inr (.inl (j 6))), .inl (3, 8, .inr (.inl (j 7))), .inl (3, 6, .inr (.inl (j 8))), .inl (3, 6, .inr (.inl (j 9))), .inl (3, 6, .inr (.inl (j 10)))]
def c_lay (K r : Nat) (p : Nat → Nat) (f : Nat → Int32) (a : Nat → Nat → Int32) (j : Nat → Nat → Int64) (b : List gE) : List gE := match K with
  | 0 => c_lay0 r p f a j
  | 1 => c_lay1 r p f a j
  | 2 => c_lay2 r p f a j
  | 3 => c_lay3 r p f a j
  | 4 => c_lay4 r p f a j
  | 5 => c_lay5 r p f a j
  | 6 => c_lay6 r p f a j
  | 7 => c_lay7 r p f a j
  | 8 => c_lay8 r p f a j
  | 9 => c_lay9 r p f a j
  | 10 => c_lay10 r p f a j
  | 11 => c_lay11 r p f a j
  | _ => b
/-- a heap that holds the class's cells: refs P, ints F, rows A and J of each region; elsewhere B -/
def c_f (B : Nat → List gE) (P : Nat → Nat → Nat) (F : Nat → Nat → Int32) (A : Nat → Nat → Nat → Int32) (J : Nat → Nat → Nat → Int64) (r : Nat) : List gE := c_lay (c_kind r) r (P r) (F r) (A r) (J r) (B r)
abbrev c_h (c : Nat × Nat) (B : Nat → List gE) (P : Nat → Nat → Nat) (F : Nat → Nat → Int32) (A : Nat → Nat → Nat → Int32) (J : Nat → Nat → Nat → Int64) : gH := (c, c_f B P F A J)
theorem c_get {c : Nat × Nat} {B : Nat → List gE} {P : Nat → Nat → Nat} {F : Nat → Nat → Int32} {A : Nat → Nat → Nat → Int32} {J : Nat → Nat → Nat → Int64} {r o K : Nat} (hk : c_kind r = K) (ho : o < 1024) : g_get (c_h c B P F A J) (r * 1024 + o) = (c_lay K r (P r) (F r) (A r) (J r) (B r))[o]? := by
  unfold g_get
  have h1 : (r * 1024 + o) / 1024 = r := by omega
  have h2 : (r * 1024 + o) % 1024 = o := by omega
  rw [h1, h2]
  show (c_lay (c_kind r) r (P r) (F r) (A r) (J r) (B r))[o]? = _
  rw [hk]
theorem c_set {c : Nat × Nat} {B : Nat → List gE} {P P' : Nat → Nat → Nat} {F F' : Nat → Nat → Int32} {A A' : Nat → Nat → Nat → Int32} {J J' : Nat → Nat → Nat → Int64} {r o K : Nat} {e : gE} (hk : c_kind r = K) (ho : o < 1024) (hs : (c_lay K r (P r) (F r) (A r) (J r) (B r)).set o e = c_lay K r (P' r) (F' r) (A' r) (J' r) (B r)) (hn : ∀ q, q ≠ r → P' q = P q ∧ F' q = F q ∧ A' q = A q ∧ J' q = J q) : g_set (c_h c B P F A J) (r * 1024 + o) e = c_h c B P' F' A' J' := by
  unfold g_set
  have h1 : (r * 1024 + o) / 1024 = r := by omega
  have h2 : (r * 1024 + o) % 1024 = o := by omega
  rw [h1, h2]
  refine Prod.ext rfl ?_
  funext q
  show va_up (c_f B P F A J) r ((c_f B P F A J r).set o e) q = c_f B P' F' A' J' q
  unfold va_up
  by_cases hq : q = r
  · rw [if_pos hq, hq]
    show (c_lay (c_kind r) r (P r) (F r) (A r) (J r) (B r)).set o e = c_lay (c_kind r) r (P' r) (F' r) (A' r) (J' r) (B r)
    rw [hk, hs]
  · rw [if_neg hq]
    obtain ⟨e1, e2, e3, e4⟩ := hn q hq
    show c_lay (c_kind q) q (P q) (F q) (A q) (J q) (B q) = c_lay (c_kind q) q (P' q) (F' q) (A' q) (J' q) (B q)
    rw [e1, e2, e3, e4]
/-- the cells in the order in which they are made -/
def c_lgL : List Nat := [0, 1024, 1025, 2048, 2049, 2050, 2051, 2052, 2053, 2054, 2055, 3072, 3073, 3074, 3075, 3076, 3077, 3078, 3079, 4096, 4097, 5120, 5121, 5122, 5123, 5124, 5125, 5126, 5127, 6144, 6145, 6146, 6147, 6148, 6149, 6150, 6151, 7168, 7169, 7170, 7171, 7172, 7173, 7174, 7175, 8192, 8193, 8194, 8195, 8196, 8197, 8198, 8199, 9216, 9217, 9218, 9219, 9220, 9221, 9222, 9223, 10240, 10241, 10242, 10243, 10244, 10245, 10246, 10247, 11264, 11265, 11266, 11267, 11268, 11269, 11270, 11271, 12288, 12289, 12290, 12291, 12292, 12293, 12294, 12295, 13312, 13313, 13314, 13315, 13316, 13317, 13318, 13319, 14336, 14337, 14338, 14339, 14340, 14341, 14342, 14343, 15360, 15361, 15362, 15363, 15364, 15365, 15366, 15367, 16384, 16385, 16386, 16387, 16388, 16389, 16390, 16391, 17408, 17409, 17410, 17411, 17412, 17413, 17414, 17415, 18432, 18433, 18434, 18435, 18436, 18437, 18438, 18439, 19456, 19457, 19458, 19459, 19460, 19461, 19462, 19463, 20480, 20481, 20482, 20483, 20484, 20485, 20486, 20487, 21504, 21505, 21506, 21507, 21508, 21509, 21510, 21511, 22528, 22529, 22530, 22531, 22532, 22533, 22534, 22535, 23552, 23553, 23554, 23555, 23556, 23557, 23558, 23559, 24576, 24577, 24578, 24579, 24580, 24581, 24582, 24583, 25600, 25601, 25602, 26624, 27648, 27649, 27650, 27651, 27652, 27653, 27654, 27655, 27656, 27657, 27658, 27659, 27660, 27661, 27662, 27663, 27664, 27665, 28672, 28673, 28674, 28675, 28676, 28677, 28678, 28679, 28680, 28681, 28682, 28683, 28684, 28685, 28686, 28687, 28688, 28689, 29696, 29697, 29698, 29699, 29700, 29701, 29702, 29703, 30720, 30721, 30722, 30723, 30724, 30725, 30726, 30727, 31744, 31745, 31746, 31747, 31748, 31749, 31750, 31751, 32768, 33792, 33793, 33794, 33795, 33796, 33797, 33798, 33799, 34816, 35840, 36864, 36865, 36866, 36867, 36868, 36869, 36870, 36871, 36872, 36873, 37888, 37889, 37890, 37891, 37892, 37893, 37894, 37895, 37896, 37897, 37898]
def c_lg (i : Nat) : Nat := if i < 277 then c_lgL.getD i 0 else if i < 340 then 40960 + (i - 277) else if i < 1364 then 39936 + (i - 340) else 100000 + i
def c_bs : List Nat := [0, 1, 3, 11, 19, 21, 29, 37, 45, 53, 61, 69, 77, 85, 93, 101, 109, 117, 125, 133, 141, 149, 157, 165, 173, 181, 184, 185, 203, 221, 229, 237, 245, 246, 254, 255, 256, 266]
def c_fl (k : Nat) : Nat := if 100000 ≤ k then k - 100000 else if 40960 ≤ k then 277 + (k - 40960) else if 39936 ≤ k then 340 + (k - 39936) else c_bs.getD (k / 1024) 0 + k % 1024
theorem c_fl_0 : ∀ i, i < 277 → c_fl (c_lgL.getD i 0) = i := by decide +kernel
theorem c_fllg (i : Nat) : c_fl (c_lg i) = i := by
  unfold c_lg
  split
  next h => exact c_fl_0 i h
  next h =>
    split
    next h2 => unfold c_fl; rw [if_neg (by omega), if_pos (by omega)]; omega
    next h2 =>
      split
      next h3 => unfold c_fl; rw [if_neg (by omega), if_neg (by omega), if_pos (by omega)]; omega
      next h3 => unfold c_fl; rw [if_pos (by omega)]; omega
