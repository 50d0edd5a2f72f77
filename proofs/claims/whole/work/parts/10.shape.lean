/-! the classes, their fields; the cells' shapes -/
def TD : u_T := fun k => match k with
  | 0 => ("AppDesk", "draftPack", "LAppDesk$Pack;", true)
  | 1 => ("AppDesk", "apps", "[LAppDesk$App;", true)
  | 2 => ("AppDesk", "intents", "LAppDesk$IntentQueue;", true)
  | 3 => ("AppDesk", "verifier", "LAppDesk$Verifier;", true)
  | _ => ("AppDesk", "lastToStep", "I", false)
def tD : Nat → FieldType := fun k => match k with
  | 0 => .object "AppDesk$Pack"
  | 1 => .array (.object "AppDesk$App")
  | 2 => .object "AppDesk$IntentQueue"
  | 3 => .object "AppDesk$Verifier"
  | _ => .int
theorem nmD : ∀ a, a < 5 → ∀ b, b < 5 → a ≠ b → (TD a).2.1 ≠ (TD b).2.1 := by decide +kernel
theorem tD_ok : ∀ k, k < 5 → parseFieldDescriptor (TD k).2.2.1 = some (tD k) := by decide +kernel
theorem inD : ∀ w ∈ u_ws "AppDesk" TD 5, w ∈ zT := by decide +kernel
def TP : u_T := fun k => match k with
  | 0 => ("AppDesk$Pack", "name", "I", false)
  | 1 => ("AppDesk$Pack", "version", "I", false)
  | 2 => ("AppDesk$Pack", "signer", "I", false)
  | 3 => ("AppDesk$Pack", "sealNow", "I", false)
  | 4 => ("AppDesk$Pack", "asked", "I", false)
  | 5 => ("AppDesk$Pack", "levels", "[I", true)
  | 6 => ("AppDesk$Pack", "partCount", "I", false)
  | 7 => ("AppDesk$Pack", "actions", "[I", true)
  | 8 => ("AppDesk$Pack", "openings", "[I", true)
  | 9 => ("AppDesk$Pack", "guards", "[I", true)
  | 10 => ("AppDesk$Pack", "places", "[I", true)
  | 11 => ("AppDesk$Pack", "wordCount", "I", false)
  | _ => ("AppDesk$Pack", "words", "[I", true)
def tP : Nat → FieldType := fun k => match k with
  | 0 => .int
  | 1 => .int
  | 2 => .int
  | 3 => .int
  | 4 => .int
  | 5 => .array .int
  | 6 => .int
  | 7 => .array .int
  | 8 => .array .int
  | 9 => .array .int
  | 10 => .array .int
  | 11 => .int
  | _ => .array .int
theorem nmP : ∀ a, a < 13 → ∀ b, b < 13 → a ≠ b → (TP a).2.1 ≠ (TP b).2.1 := by decide +kernel
theorem tP_ok : ∀ k, k < 13 → parseFieldDescriptor (TP k).2.2.1 = some (tP k) := by decide +kernel
theorem inP : ∀ w ∈ u_ws "AppDesk$Pack" TP 13, w ∈ zT := by decide +kernel
def TA : u_T := fun k => match k with
  | 0 => ("AppDesk$App", "installed", "Z", false)
  | 1 => ("AppDesk$App", "pack", "LAppDesk$Pack;", true)
  | 2 => ("AppDesk$App", "granted", "I", false)
  | 3 => ("AppDesk$App", "keptKeys", "I", false)
  | 4 => ("AppDesk$App", "keptValues", "[I", true)
  | 5 => ("AppDesk$App", "runs", "Z", false)
  | 6 => ("AppDesk$App", "place", "I", false)
  | 7 => ("AppDesk$App", "height", "I", false)
  | 8 => ("AppDesk$App", "stack", "[I", true)
  | _ => ("AppDesk$App", "locals", "[I", true)
def tA : Nat → FieldType := fun k => match k with
  | 0 => .boolean
  | 1 => .object "AppDesk$Pack"
  | 2 => .int
  | 3 => .int
  | 4 => .array .int
  | 5 => .boolean
  | 6 => .int
  | 7 => .int
  | 8 => .array .int
  | _ => .array .int
theorem nmA : ∀ a, a < 10 → ∀ b, b < 10 → a ≠ b → (TA a).2.1 ≠ (TA b).2.1 := by decide +kernel
theorem tA_ok : ∀ k, k < 10 → parseFieldDescriptor (TA k).2.2.1 = some (tA k) := by decide +kernel
theorem inA : ∀ w ∈ u_ws "AppDesk$App" TA 10, w ∈ zT := by decide +kernel
def TQ : u_T := fun k => match k with
  | 0 => ("AppDesk$IntentQueue", "size", "I", false)
  | 1 => ("AppDesk$IntentQueue", "senders", "[I", true)
  | 2 => ("AppDesk$IntentQueue", "actions", "[I", true)
  | _ => ("AppDesk$IntentQueue", "values", "[I", true)
def tQ : Nat → FieldType := fun k => match k with
  | 0 => .int
  | 1 => .array .int
  | 2 => .array .int
  | _ => .array .int
theorem nmQ : ∀ a, a < 4 → ∀ b, b < 4 → a ≠ b → (TQ a).2.1 ≠ (TQ b).2.1 := by decide +kernel
theorem tQ_ok : ∀ k, k < 4 → parseFieldDescriptor (TQ k).2.2.1 = some (tQ k) := by decide +kernel
theorem inQ : ∀ w ∈ u_ws "AppDesk$IntentQueue" TQ 4, w ∈ zT := by decide +kernel
def TV : u_T := fun k => match k with
  | 0 => ("AppDesk$Verifier", "heights", "[I", true)
  | 1 => ("AppDesk$Verifier", "reached", "[I", true)
  | _ => ("AppDesk$Verifier", "reachedCount", "I", false)
def tV : Nat → FieldType := fun k => match k with
  | 0 => .array .int
  | 1 => .array .int
  | _ => .int
theorem nmV : ∀ a, a < 3 → ∀ b, b < 3 → a ≠ b → (TV a).2.1 ≠ (TV b).2.1 := by decide +kernel
theorem tV_ok : ∀ k, k < 3 → parseFieldDescriptor (TV k).2.2.1 = some (tV k) := by decide +kernel
theorem inV : ∀ w ∈ u_ws "AppDesk$Verifier" TV 3, w ∈ zT := by decide +kernel
def TM : u_T := fun k => match k with
  | 0 => ("AppDeskModel", "thrown", "I", false)
  | 1 => ("AppDeskModel", "there", "[Z", true)
  | 2 => ("AppDeskModel", "version", "[I", true)
  | 3 => ("AppDeskModel", "signer", "[I", true)
  | 4 => ("AppDeskModel", "seal", "[I", true)
  | 5 => ("AppDeskModel", "asks", "[I", true)
  | 6 => ("AppDeskModel", "declares", "[I", true)
  | 7 => ("AppDeskModel", "parts", "[I", true)
  | 8 => ("AppDeskModel", "action", "[I", true)
  | 9 => ("AppDeskModel", "open", "[Z", true)
  | 10 => ("AppDeskModel", "guard", "[I", true)
  | 11 => ("AppDeskModel", "begin", "[I", true)
  | 12 => ("AppDeskModel", "words", "[I", true)
  | 13 => ("AppDeskModel", "code", "[I", true)
  | 14 => ("AppDeskModel", "draftName", "I", false)
  | 15 => ("AppDeskModel", "has", "[Z", true)
  | 16 => ("AppDeskModel", "value", "[I", true)
  | 17 => ("AppDeskModel", "granted", "[I", true)
  | 18 => ("AppDeskModel", "runs", "[Z", true)
  | 19 => ("AppDeskModel", "place", "[I", true)
  | 20 => ("AppDeskModel", "height", "[I", true)
  | 21 => ("AppDeskModel", "stack", "[I", true)
  | 22 => ("AppDeskModel", "local", "[I", true)
  | 23 => ("AppDeskModel", "latest", "I", false)
  | 24 => ("AppDeskModel", "queue", "I", false)
  | 25 => ("AppDeskModel", "sender", "[I", true)
  | 26 => ("AppDeskModel", "sent", "[I", true)
  | 27 => ("AppDeskModel", "with", "[I", true)
  | _ => ("AppDeskModel", "high", "[I", true)
def tM : Nat → FieldType := fun k => match k with
  | 0 => .int
  | 1 => (.array .boolean)
  | 2 => (.array .int)
  | 3 => (.array .int)
  | 4 => (.array .int)
  | 5 => (.array .int)
  | 6 => (.array .int)
  | 7 => (.array .int)
  | 8 => (.array .int)
  | 9 => (.array .boolean)
  | 10 => (.array .int)
  | 11 => (.array .int)
  | 12 => (.array .int)
  | 13 => (.array .int)
  | 14 => .int
  | 15 => (.array .boolean)
  | 16 => (.array .int)
  | 17 => (.array .int)
  | 18 => (.array .boolean)
  | 19 => (.array .int)
  | 20 => (.array .int)
  | 21 => (.array .int)
  | 22 => (.array .int)
  | 23 => .int
  | 24 => .int
  | 25 => (.array .int)
  | 26 => (.array .int)
  | 27 => (.array .int)
  | _ => (.array .int)
theorem nmM : ∀ a, a < 29 → ∀ b, b < 29 → a ≠ b → (TM a).2.1 ≠ (TM b).2.1 := by decide +kernel
theorem tM_ok : ∀ k, k < 29 → parseFieldDescriptor (TM k).2.2.1 = some (tM k) := by decide +kernel
theorem inM : ∀ w ∈ u_ws "AppDeskModel" TM 29, w ∈ zT := by decide +kernel
abbrev zcl : List vw_C := [("AppDesk", TD, 5), ("AppDesk$Pack", TP, 13), ("AppDesk$App", TA, 10), ("AppDesk$IntentQueue", TQ, 4), ("AppDesk$Verifier", TV, 3), ("AppDeskModel", TM, 29)]
abbrev zty (K : Nat → ClassId) : List (ClassId × FieldType) := [(K 0, .int), (K 1, .boolean), (K 2, .long), (K 3, .object "AppDesk$App")]
/-- the cells by their numbers: 0 the class's object, 1 its apps, 2-5 the queue, 6-8 the verifier, zp i = 9 + 7 i the packs (8: the draft) with their six rows, za n = 72 + 4 n the apps with their three rows, 104 the reference, 105-129 its rows, 130 the law's own row -/
def zN : Nat := 131
def zp (i : Nat) : Nat := 9 + 7 * i
def za (n : Nat) : Nat := 72 + 4 * n
def zfP (j : Nat) : List (Option Nat) := [none, none, none, none, none, some (j + 1), none, some (j + 2), some (j + 3), some (j + 4), some (j + 5), none, some (j + 6)]
def zfA (j p : Nat) : List (Option Nat) := [none, some (p), none, none, some (j + 1), none, none, none, some (j + 2), some (j + 3)]
def zfD : List (Option Nat) := [some (zp 8), some (1), some (2), some (6), none]
def zfQ : List (Option Nat) := [none, some (3), some (4), some (5)]
def zfV : List (Option Nat) := [some (7), some (8), none]
def zfM : List (Option Nat) := [none, some (105), some (106), some (107), some (108), some (109), some (110), some (111), some (112), some (113), some (114), some (115), some (116), some (117), none, some (118), some (119), some (120), some (121), some (122), some (123), some (124), some (125), none, none, some (126), some (127), some (128), some (129)]
def zSM : List (Nat × Nat × List (Option Nat)) := [(2, 9, []), (1, 9, []), (1, 9, []), (1, 9, []), (1, 9, []), (1, 72, []), (1, 9, []), (1, 36, []), (2, 36, []), (1, 36, []), (1, 36, []), (1, 9, []), (1, 216, []), (2, 64, []), (1, 64, []), (1, 8, []), (2, 8, []), (1, 8, []), (1, 8, []), (1, 48, []), (1, 32, []), (1, 9, []), (1, 9, []), (1, 9, []), (1, 24, [])]
def zSP (j r : Nat) : Nat × Nat × List (Option Nat) := match r with
  | 0 => (0, 1, zfP j)
  | 1 => (1, 8, [])
  | 6 => (1, 24, [])
  | _ => (1, 4, [])
def zSA (j n r : Nat) : Nat × Nat × List (Option Nat) := match r with
  | 0 => (0, 2, zfA j (zp n))
  | 1 => (1, 8, [])
  | 2 => (1, 6, [])
  | _ => (1, 4, [])
def zSD (j : Nat) : Nat × Nat × List (Option Nat) := match j with
  | 0 => (0, 0, zfD)
  | 1 => (4, 8, [some 72, some 76, some 80, some 84, some 88, some 92, some 96, some 100])
  | 2 => (0, 3, zfQ)
  | 6 => (0, 4, zfV)
  | 7 => (1, 24, [])
  | 8 => (1, 24, [])
  | _ => (1, 8, [])
def zS (j : Nat) : Nat × Nat × List (Option Nat) := if j < 9 then zSD j else if j < 72 then zSP j ((j - 9) % 7) else if j < 104 then zSA j ((j - 72) / 4) ((j - 72) % 4) else if j = 104 then (0, 5, zfM) else if j < 130 then zSM.getD (j - 105) (1, 0, []) else (3, 1, [])
theorem zp_lt {i : Nat} (h : i < 9) : zp i < zN := by unfold zp zN; omega
theorem zp_lt' {i : Nat} (h : i < 9) (r : Nat) (hr : r < 7) : zp i + r < zN := by unfold zp zN; omega
theorem za_lt {n : Nat} (h : n < 8) : za n < zN := by unfold za zN; omega
theorem za_lt' {n : Nat} (h : n < 8) (r : Nat) (hr : r < 4) : za n + r < zN := by unfold za zN; omega
theorem zS_p {i : Nat} (h : i < 9) : zS (zp i) = (0, 1, zfP (zp i)) := by
  unfold zS zp
  rw [if_neg (by omega), if_pos (by omega), show (9 + 7 * i - 9) % 7 = 0 by omega]
  rfl
theorem zS_pr {i : Nat} (h : i < 9) (r : Nat) (hr : r < 7) : zS (zp i + r) = zSP (zp i + r) r := by
  unfold zS zp
  rw [if_neg (by omega), if_pos (by omega), show (9 + 7 * i + r - 9) % 7 = r by omega]
theorem zS_a {n : Nat} (h : n < 8) : zS (za n) = (0, 2, zfA (za n) (zp n)) := by
  unfold zS za
  rw [if_neg (by omega), if_neg (by omega), if_pos (by omega), show (72 + 4 * n - 72) % 4 = 0 by omega, show (72 + 4 * n - 72) / 4 = n by omega]
  rfl
theorem zS_ar {n : Nat} (h : n < 8) (r : Nat) (hr : r < 4) : zS (za n + r) = zSA (za n + r) n r := by
  unfold zS za
  rw [if_neg (by omega), if_neg (by omega), if_pos (by omega), show (72 + 4 * n + r - 72) % 4 = r by omega, show (72 + 4 * n + r - 72) / 4 = n by omega]
theorem zS_app {n : Nat} (h : n < 8) : ([some 72, some 76, some 80, some 84, some 88, some 92, some 96, some 100] : List (Option Nat)).getD n none = some (za n) := by
  have : ∀ n, n < 8 → ([some 72, some 76, some 80, some 84, some 88, some 92, some 96, some 100] : List (Option Nat)).getD n none = some (za n) := by decide
  exact this n h
