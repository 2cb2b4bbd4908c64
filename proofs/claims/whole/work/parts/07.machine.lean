/-! THE PURE MACHINE: a heap of numbered cells (their kind, length, ints, references, longs), locals and stack as lists; one step as a function -/
abbrev pm_H : Type := (Nat → Nat) × (Nat → Nat) × Nat × Nat × (Nat → Nat → Int32) × (Nat → Nat → Option Nat) × (Nat → Nat → Int64)
def zT (h : pm_H) (a : Nat) : Nat := h.1 a
def zN (h : pm_H) (a : Nat) : Nat := h.2.1 a
def zn (h : pm_H) : Nat := h.2.2.1
def zk (h : pm_H) : Nat := h.2.2.2.1
def zI (h : pm_H) (a : Nat) : Nat → Int32 := h.2.2.2.2.1 a
def zR (h : pm_H) (a : Nat) : Nat → Option Nat := h.2.2.2.2.2.1 a
def zJ (h : pm_H) (a : Nat) : Nat → Int64 := h.2.2.2.2.2.2 a
/-- a whole row of ints, of references, of longs set -/
def yA (h : pm_H) (a : Nat) (f : Nat → Int32) : pm_H := (h.1, h.2.1, h.2.2.1, h.2.2.2.1, va_up h.2.2.2.2.1 a f, h.2.2.2.2.2.1, h.2.2.2.2.2.2)
def yB (h : pm_H) (a : Nat) (f : Nat → Option Nat) : pm_H := (h.1, h.2.1, h.2.2.1, h.2.2.2.1, h.2.2.2.2.1, va_up h.2.2.2.2.2.1 a f, h.2.2.2.2.2.2)
def yL (h : pm_H) (a : Nat) (f : Nat → Int64) : pm_H := (h.1, h.2.1, h.2.2.1, h.2.2.2.1, h.2.2.2.2.1, h.2.2.2.2.2.1, va_up h.2.2.2.2.2.2 a f)
def yI (h : pm_H) (a k : Nat) (v : Int32) : pm_H := yA h a (va_up (zI h a) k v)
def yR (h : pm_H) (a k : Nat) (v : Option Nat) : pm_H := yB h a (va_up (zR h a) k v)
def yJ (h : pm_H) (a k : Nat) (v : Int64) : pm_H := yL h a (va_up (zJ h a) k v)
/-- a new cell of kind t and length len, that takes sz places -/
def yN (h : pm_H) (t len sz : Nat) : pm_H := (va_up h.1 h.2.2.1 t, va_up h.2.1 h.2.2.1 len, h.2.2.1 + 1, h.2.2.2.1 + sz, va_up h.2.2.2.2.1 h.2.2.1 (fun _ => 0), va_up h.2.2.2.2.2.1 h.2.2.1 (fun _ => none), va_up h.2.2.2.2.2.2 h.2.2.1 (fun _ => 0))
abbrev pm_Lo : Type := List (Option Value)
abbrev pm_St : Type := Nat × pm_Lo × List Value × pm_H
abbrev pm_S : Type := Option (pm_St ⊕ ((Prop × pm_St) ⊕ ((Prop × Nat × Nat × List Value) ⊕ ((Prop × Option Value) ⊕ (Prop × Nat × pm_Lo × List Value × pm_H)))))
abbrev s_nx (pc : Nat) (L : pm_Lo) (st : List Value) (h : pm_H) : pm_S := some (.inl (pc, L, st, h))
abbrev s_gd (G : Prop) (pc : Nat) (L : pm_Lo) (st : List Value) (h : pm_H) : pm_S := some (.inr (.inl (G, pc, L, st, h)))
abbrev s_br (G : Prop) (t f : Nat) (st : List Value) : pm_S := some (.inr (.inr (.inl (G, t, f, st))))
abbrev s_rt (G : Prop) (v : Option Value) : pm_S := some (.inr (.inr (.inr (.inl (G, v)))))
abbrev s_cl (G : Prop) (mj : Nat) (A : pm_Lo) (rest : List Value) (h : pm_H) : pm_S := some (.inr (.inr (.inr (.inr (G, mj, A, rest, h)))))
def pm_get : pm_Lo → Nat → Option Value
  | [], _ => none
  | x :: _, 0 => x
  | _ :: r, k + 1 => pm_get r k
def pm_set : pm_Lo → Nat → Option Value → pm_Lo
  | [], _, _ => []
  | _ :: r, 0, v => v :: r
  | x :: r, k + 1, v => x :: pm_set r k v
/-- no long lies just before this place -/
def pm_ok : pm_Lo → Nat → Bool
  | [], _ => false
  | _ :: _, 0 => true
  | x :: r, k + 1 => (match k, x with | 0, some v => Nat.beq v.category 1 | _, _ => true) && pm_ok r k
def pm_pad : Nat → pm_Lo
  | 0 => []
  | n + 1 => none :: pm_pad n
def pm_ent : Nat → List Value → pm_Lo
  | n, [] => pm_pad n
  | n, .long x :: r => some (.long x) :: none :: pm_ent (n - 2) r
  | n, v :: r => some v :: pm_ent (n - 1) r
def pm_pop : Nat → List Value → List Value → Option (List Value × List Value)
  | 0, acc, st => some (acc, st)
  | n + 1, acc, v :: st => pm_pop n (v :: acc) st
  | _ + 1, _, [] => none
def pm_nod (v : Value) : Bool := match v with | .double _ => false | _ => true
def pm_aok (n : Nat) (as : List Value) : Bool := Nat.ble ((as.map fun v => v.category).sum) n && as.all pm_nod
def pm_rok (st : List Value) : Bool := Nat.ble ((st.map fun v => v.category).sum) 8
def pm_cnd (c : Jvm.ClassFile.Cond) (x y : Int32) : Prop := match c with
  | .eq => x = y
  | .ne => ¬ x = y
  | .lt => x < y
  | .ge => y ≤ x
  | .gt => y < x
  | .le => x ≤ y
def pm_tag (t : ArrayType) : Nat := match t with
  | .int => 100
  | .byte => 101
  | .boolean => 102
  | _ => 199
/-- the texts of the String constants, by number -/
def pm_str (i : Nat) : List Nat := ([[115, 116, 114, 105, 112], [99, 108, 111, 116, 104], [116, 117, 114, 110]] : List (List Nat)).getD i []
/-- what needs the stack alone -/
def pm_op (ins : Instr) (st : List Value) : Option (List Value) := match ins with
  | .iconst n => some (.int (Int32.ofInt n) :: st)
  | .bipush n => some (.int (Int32.ofInt n) :: st)
  | .sipush n => some (.int (Int32.ofInt n) :: st)
  | .lconst n => some (.long (Int64.ofNat n) :: st)
  | .aconst_null => some (.null :: st)
  | .ldc g => bif Nat.blt g 204800 then some (.int (Int32.ofInt (pm_kv (g / 2048))) :: st) else some (.retAddr (g / 2048 - 100) :: st)
  | .ldc_w g => some (.int (Int32.ofInt (pm_kv (g / 2048))) :: st)
  | .ldc2_w g => some (.long (Int64.ofInt (pm_lv (g / 2048))) :: st)
  | .iadd => match st with | .int y :: .int x :: r => some (.int (x + y) :: r) | _ => none
  | .isub => match st with | .int y :: .int x :: r => some (.int (x - y) :: r) | _ => none
  | .imul => match st with | .int y :: .int x :: r => some (.int (x * y) :: r) | _ => none
  | .iand => match st with | .int y :: .int x :: r => some (.int (x &&& y) :: r) | _ => none
  | .ior => match st with | .int y :: .int x :: r => some (.int (x ||| y) :: r) | _ => none
  | .ishl => match st with | .int y :: .int x :: r => some (.int (x <<< (y &&& 31)) :: r) | _ => none
  | .ishr => match st with | .int y :: .int x :: r => some (.int (x >>> (y &&& 31)) :: r) | _ => none
  | .ineg => match st with | .int x :: r => some (.int (-x) :: r) | _ => none
  | .i2l => match st with | .int x :: r => some (.long x.toInt64 :: r) | _ => none
  | .l2i => match st with | .long x :: r => some (.int x.toInt32 :: r) | _ => none
  | .i2b => match st with | .int x :: r => some (.int x.toInt8.toInt32 :: r) | _ => none
  | .ladd => match st with | .long y :: .long x :: r => some (.long (x + y) :: r) | _ => none
  | .lsub => match st with | .long y :: .long x :: r => some (.long (x - y) :: r) | _ => none
  | .lmul => match st with | .long y :: .long x :: r => some (.long (x * y) :: r) | _ => none
  | .lcmp => match st with | .long y :: .long x :: r => some (.int (lg_cmp x y) :: r) | _ => none
  | .dup => match st with
    | .int x :: r => some (.int x :: .int x :: r)
    | .ref a :: r => some (.ref a :: .ref a :: r)
    | _ => none
  | .dup2 => match st with | .int x :: .ref a :: r => some (.int x :: .ref a :: .int x :: .ref a :: r) | _ => none
  | _ => none
def pm_val (h : pm_H) (kd a k : Nat) : Value := match kd with
  | 0 => .int (zI h a k)
  | 1 => va_rf (zR h a k)
  | 2 => .long (zJ h a k)
  | _ => .int (zI h a k)
def pm_tsw (d lo hi : Int) (offs : Array Int) (x : Int32) : Nat := if x.toInt < lo ∨ hi < x.toInt then d.toNat else (offs.getD (x.toInt - lo).toNat 0).toNat
def pm_lsw : List (Int × Int) → Int → Int32 → Nat
  | [], d, _ => d.toNat
  | q :: r, d, x => if x.toInt = q.1 then q.2.toNat else pm_lsw r d x
noncomputable def pm_ex (mi pc len : Nat) (ins : Instr) (L : pm_Lo) (st : List Value) (h : pm_H) : pm_S := match ins with
  | .iload k => match pm_get L k with | some (.int x) => s_nx (pc + len) L (.int x :: st) h | _ => none
  | .iload_n k => match pm_get L k.val with | some (.int x) => s_nx (pc + len) L (.int x :: st) h | _ => none
  | .aload k => match pm_get L k with
    | some (.ref x) => s_nx (pc + len) L (.ref x :: st) h
    | some .null => s_nx (pc + len) L (.null :: st) h
    | some (.retAddr x) => s_nx (pc + len) L (.retAddr x :: st) h
    | _ => none
  | .aload_n k => match pm_get L k.val with
    | some (.ref x) => s_nx (pc + len) L (.ref x :: st) h
    | some .null => s_nx (pc + len) L (.null :: st) h
    | some (.retAddr x) => s_nx (pc + len) L (.retAddr x :: st) h
    | _ => none
  | .lload k => match pm_get L k with | some (.long x) => s_nx (pc + len) L (.long x :: st) h | _ => none
  | .lload_n k => match pm_get L k.val with | some (.long x) => s_nx (pc + len) L (.long x :: st) h | _ => none
  | .istore k => match st with | .int x :: r => bif pm_ok L k then s_nx (pc + len) (pm_set L k (some (.int x))) r h else none | _ => none
  | .istore_n k => match st with | .int x :: r => bif pm_ok L k.val then s_nx (pc + len) (pm_set L k.val (some (.int x))) r h else none | _ => none
  | .astore k => match st with
    | .ref x :: r => bif pm_ok L k then s_nx (pc + len) (pm_set L k (some (.ref x))) r h else none
    | .null :: r => bif pm_ok L k then s_nx (pc + len) (pm_set L k (some .null)) r h else none
    | _ => none
  | .astore_n k => match st with
    | .ref x :: r => bif pm_ok L k.val then s_nx (pc + len) (pm_set L k.val (some (.ref x))) r h else none
    | .null :: r => bif pm_ok L k.val then s_nx (pc + len) (pm_set L k.val (some .null)) r h else none
    | _ => none
  | .lstore k => match st with | .long x :: r => bif pm_ok L k && Nat.blt (k + 1) L.length then s_nx (pc + len) (pm_set (pm_set L k (some (.long x))) (k + 1) none) r h else none | _ => none
  | .iinc k n => match pm_get L k with | some (.int x) => bif pm_ok L k then s_nx (pc + len) (pm_set L k (some (.int (x + Int32.ofInt n)))) st h else none | _ => none
  | .idiv => match st with | .int y :: .int x :: r => s_gd (¬ y = 0) (pc + len) L (.int (x / y) :: r) h | _ => none
  | .irem => match st with | .int y :: .int x :: r => s_gd (¬ y = 0) (pc + len) L (.int (x - x / y * y) :: r) h | _ => none
  | .ifCond c t => match st with | .int x :: r => s_br (pm_cnd c x 0) t.toNat (pc + len) r | _ => none
  | .if_icmp c t => match st with | .int y :: .int x :: r => s_br (pm_cnd c x y) t.toNat (pc + len) r | _ => none
  | .goto t => s_nx t.toNat L st h
  | .ifnull t => match st with
    | .null :: r => s_nx t.toNat L r h
    | .ref _ :: r => s_nx (pc + len) L r h
    | _ => none
  | .ifnonnull t => match st with
    | .null :: r => s_nx (pc + len) L r h
    | .ref _ :: r => s_nx t.toNat L r h
    | _ => none
  | .tableswitch d lo hi offs => match st with | .int x :: r => s_nx (pm_tsw d lo hi offs x) L r h | _ => none
  | .lookupswitch d ps => match st with | .int x :: r => s_nx (pm_lsw ps.toList d x) L r h | _ => none
  | .getfield g => match st with | .ref a :: r => s_gd (zT h a = g / 262144 % 16) (pc + len) L (pm_val h (g / 4194304) a (g / 2048 % 128) :: r) h | _ => none
  | .putfield g => match g / 4194304 with
    | 0 => match st with | .int x :: .ref a :: r => s_gd (zT h a = g / 262144 % 16) (pc + len) L r (yI h a (g / 2048 % 128) x) | _ => none
    | 1 => match st with
      | .ref x :: .ref a :: r => s_gd (zT h a = g / 262144 % 16) (pc + len) L r (yR h a (g / 2048 % 128) (some x))
      | .null :: .ref a :: r => s_gd (zT h a = g / 262144 % 16) (pc + len) L r (yR h a (g / 2048 % 128) none)
      | _ => none
    | 2 => match st with | .long x :: .ref a :: r => s_gd (zT h a = g / 262144 % 16) (pc + len) L r (yJ h a (g / 2048 % 128) x) | _ => none
    | _ => match st with | .int x :: .ref a :: r => s_gd (zT h a = g / 262144 % 16 ∧ (x = 0 ∨ x = 1)) (pc + len) L r (yI h a (g / 2048 % 128) x) | _ => none
  | .new g => s_nx (pc + len) L (.ref (zn h) :: st) (yN h (g / 2048) 0 (pm_N (g / 2048)))
  | .newarray t => match st with | .int n :: r => s_gd (¬ n < 0 ∧ n.toNatClampNeg ≤ 100000) (pc + len) L (.ref (zn h) :: r) (yN h (pm_tag t) n.toNatClampNeg n.toNatClampNeg) | _ => none
  | .anewarray g => match st with | .int n :: r => s_gd (¬ n < 0 ∧ n.toNatClampNeg ≤ 100000) (pc + len) L (.ref (zn h) :: r) (yN h (g / 2048) n.toNatClampNeg n.toNatClampNeg) | _ => none
  | .arraylength => match st with | .ref a :: r => s_gd (100 ≤ zT h a ∧ zT h a ≤ 105) (pc + len) L (.int (Int32.ofInt (zN h a)) :: r) h | _ => none
  | .iaload => match st with | .int i :: .ref a :: r => s_gd (zT h a = 100 ∧ vp_in i (zN h a)) (pc + len) L (.int (zI h a i.toNatClampNeg) :: r) h | _ => none
  | .baload => match st with | .int i :: .ref a :: r => s_gd (zT h a = 101 ∧ vp_in i (zN h a)) (pc + len) L (.int (zI h a i.toNatClampNeg) :: r) h | _ => none
  | .caload => match st with | .int i :: .ref a :: r => s_gd (zT h a = 102 ∧ vp_in i (zN h a)) (pc + len) L (.int (zI h a i.toNatClampNeg) :: r) h | _ => none
  | .aaload => match st with | .int i :: .ref a :: r => s_gd ((zT h a = 103 ∨ zT h a = 104 ∨ zT h a = 105) ∧ vp_in i (zN h a)) (pc + len) L (va_rf (zR h a i.toNatClampNeg) :: r) h | _ => none
  | .iastore => match st with | .int x :: .int i :: .ref a :: r => s_gd (zT h a = 100 ∧ vp_in i (zN h a)) (pc + len) L r (yI h a i.toNatClampNeg x) | _ => none
  | .bastore => match st with | .int x :: .int i :: .ref a :: r => s_gd (zT h a = 101 ∧ vp_in i (zN h a)) (pc + len) L r (yI h a i.toNatClampNeg x.toInt8.toInt32) | _ => none
  | .castore => match st with | .int x :: .int i :: .ref a :: r => s_gd (zT h a = 102 ∧ (x = 0 ∨ x = 1) ∧ vp_in i (zN h a)) (pc + len) L r (yI h a i.toNatClampNeg x) | _ => none
  | .aastore => match st with | .ref x :: .int i :: .ref a :: r => s_gd ((zT h a = 103 ∨ zT h a = 104 ∨ zT h a = 105) ∧ zT h x = pm_elt (zT h a) ∧ vp_in i (zN h a)) (pc + len) L r (yR h a i.toNatClampNeg (some x)) | _ => none
  | .invokevirtual g => match pm_pop (g / 2048 % 16) [] st with
    | some (as, .ref b :: rest) => bif pm_rok rest && pm_aok (pm_L (g / 32768)) (.ref b :: as) then s_cl (zT h b = pm_o (g / 32768)) (g / 32768) (pm_ent (pm_L (g / 32768)) (.ref b :: as)) rest h else none
    | _ => none
  | .invokespecial g => match pm_pop (g / 2048 % 16) [] st with
    | some (as, .ref b :: rest) => bif pm_rok rest && pm_aok (pm_L (g / 32768)) (.ref b :: as) then s_cl True (g / 32768) (pm_ent (pm_L (g / 32768)) (.ref b :: as)) rest h else none
    | _ => none
  | .invokestatic g => match pm_pop (g / 2048 % 16) [] st with
    | some (as, rest) => bif pm_rok rest && pm_aok (pm_L (g / 32768)) as then s_cl True (g / 32768) (pm_ent (pm_L (g / 32768)) as) rest h else none
    | _ => none
  | .getstatic _ => match st with | .ref _ :: r => bif pm_rok r then s_nx (pc + len) L r h else none | _ => none
  | .invokedynamic _ => match st with
    | .int n :: .int dp :: .ref b :: .int sp :: .ref a :: r => bif pm_rok r then s_gd ((zT h a = 100 ∨ zT h a = 101 ∧ ∀ j, (zI h a j).toInt8.toInt32 = zI h a j) ∧ zT h b = zT h a ∧ ¬ sp < 0 ∧ ¬ dp < 0 ∧ ¬ n < 0 ∧ sp.toNatClampNeg + n.toNatClampNeg ≤ zN h a ∧ dp.toNatClampNeg + n.toNatClampNeg ≤ zN h b) (pc + len) L r (yA h b (va_cpy (zI h a) (zI h b) sp.toNatClampNeg dp.toNatClampNeg n.toNatClampNeg)) else none
    | _ => none
  | .fload _ => match st with | .int y :: .int x :: r => bif pm_rok r then s_nx (pc + len) L (.int (if x < y then y else x) :: r) h else none | _ => none
  | .dload _ => match st with | .int y :: .int x :: r => bif pm_rok r then s_nx (pc + len) L (.int (if y < x then y else x) :: r) h else none | _ => none
  | .fstore _ => match st with | .int x :: r => bif pm_rok r then s_nx (pc + len) L (.int (if 0 ≤ x then x else 0 - x) :: r) h else none | _ => none
  | .putstatic _ => match st with | .ref a :: r => bif pm_rok r then s_gd (zT h a = 101 ∧ ∀ j, (zI h a j).toInt8.toInt32 = zI h a j) (pc + len) L (.ref (zn h) :: r) (yA (yN h 101 (zN h a) (zN h a)) (zn h) (zI h a)) else none | _ => none
  | .checkcast _ => match st with | .ref a :: r => s_gd (zT h a = 101) (pc + len) L (.ref a :: r) h | _ => none
  | .instanceof _ => match st with | .retAddr i :: r => bif pm_rok r then s_gd (i < 3) (pc + len) L (.int (Int32.ofInt ((pm_str i).length)) :: r) h else none | _ => none
  | .invokeinterface _ _ => match st with | .int k :: .retAddr i :: r => bif pm_rok r then s_gd (i < 3 ∧ vp_in k (pm_str i).length) (pc + len) L (.int (Int32.ofInt ((pm_str i).getD k.toNatClampNeg 0)) :: r) h else none | _ => none
  | .ireturn => match st with | [.int x] => s_rt True (some (.int x)) | _ => none
  | .freturn => match st with | [.int x] => s_rt (x = 0 ∨ x = 1) (some (.int x)) | _ => none
  | .lreturn => match st with | [.long x] => s_rt True (some (.long x)) | _ => none
  | .areturn => match st with
    | [.ref x] => s_rt True (some (.ref x))
    | [.null] => s_rt True (some .null)
    | _ => none
  | .return_ => match st with | [] => s_rt True none | _ => none
  | i => match pm_op i st with | some st' => s_nx (pc + len) L st' h | none => none
noncomputable def pm_stp (mi pc : Nat) (L : pm_Lo) (st : List Value) (h : pm_H) : pm_S := match pm_ft mi pc with
  | some (ins, len) => pm_ex mi pc len ins L st h
  | none => none
abbrev pm_X : Type := Nat → Nat → pm_Lo → List Value → pm_H → Option Value → pm_H → Prop
/-- what a step asks of the states behind it -/
def pm_K (X : pm_X) (mi pc : Nat) (L : pm_Lo) (h : pm_H) (r : Option Value) (h' : pm_H) (S : pm_S) : Prop := match S with
  | none => False
  | some (.inl (pc', L', st', g)) => X mi pc' L' st' g r h'
  | some (.inr (.inl (G, pc', L', st', g))) => G ∧ X mi pc' L' st' g r h'
  | some (.inr (.inr (.inl (c, t, f, st')))) => (c → X mi t L st' h r h') ∧ (¬ c → X mi f L st' h r h')
  | some (.inr (.inr (.inr (.inl (G, v))))) => G ∧ v = r ∧ h = h'
  | some (.inr (.inr (.inr (.inr (G, mj, A, rest, g))))) => G ∧ ∃ r1 h1, X mj 0 A [] g r1 h1 ∧ X mi (pc + 3) L (r1.toList ++ rest) h1 r h'
def pm_cld (X : pm_X) : Prop := ∀ mi pc L st h r h', pm_K X mi pc L h r h' (pm_stp mi pc L st h) → X mi pc L st h r h'
def pm_Run (mi pc : Nat) (L : pm_Lo) (st : List Value) (h : pm_H) (r : Option Value) (h' : pm_H) : Prop := ∀ X : pm_X, pm_cld X → X mi pc L st h r h'
theorem pm_K_mono {X Y : pm_X} (hXY : ∀ mi pc L st h r h', X mi pc L st h r h' → Y mi pc L st h r h') {mi pc : Nat} {L : pm_Lo} {h : pm_H} {r : Option Value} {h' : pm_H} {S : pm_S} (k : pm_K X mi pc L h r h' S) : pm_K Y mi pc L h r h' S := by
  match S, k with
  | some (.inl (pc', L', st', g)), k => exact hXY _ _ _ _ _ _ _ k
  | some (.inr (.inl (G, pc', L', st', g))), k => exact ⟨k.1, hXY _ _ _ _ _ _ _ k.2⟩
  | some (.inr (.inr (.inl (c, t, f, st')))), k => exact ⟨fun q => hXY _ _ _ _ _ _ _ (k.1 q), fun q => hXY _ _ _ _ _ _ _ (k.2 q)⟩
  | some (.inr (.inr (.inr (.inl (G, v))))), k => exact k
  | some (.inr (.inr (.inr (.inr (G, mj, A, rest, g))))), k =>
    obtain ⟨a, r1, h1, b, c⟩ := k
    exact ⟨a, r1, h1, hXY _ _ _ _ _ _ _ b, hXY _ _ _ _ _ _ _ c⟩
theorem pm_fold {mi pc : Nat} {L : pm_Lo} {st : List Value} {h : pm_H} {r : Option Value} {h' : pm_H} (k : pm_K pm_Run mi pc L h r h' (pm_stp mi pc L st h)) : pm_Run mi pc L st h r h' :=
  fun X hX => hX _ _ _ _ _ _ _ (pm_K_mono (fun _ _ _ _ _ _ _ z => z X hX) k)
/-- the machine comes to an end with Q -/
def WP (mi pc : Nat) (L : pm_Lo) (st : List Value) (h : pm_H) (Q : Option Value → pm_H → Prop) : Prop := ∃ r h', pm_Run mi pc L st h r h' ∧ Q r h'
section WPR
variable {mi pc pc' t f mj : Nat} {L L' A : pm_Lo} {st st' rest : List Value} {h g : pm_H} {Q : Option Value → pm_H → Prop} {G : Prop} {v : Option Value}
theorem WP.nx (e : pm_stp mi pc L st h = s_nx pc' L' st' g) (k : WP mi pc' L' st' g Q) : WP mi pc L st h Q := by
  obtain ⟨r, h', k1, k2⟩ := k
  exact ⟨r, h', pm_fold (by rw [e]; exact k1), k2⟩
theorem WP.gd (e : pm_stp mi pc L st h = s_gd G pc' L' st' g) (hG : G) (k : WP mi pc' L' st' g Q) : WP mi pc L st h Q := by
  obtain ⟨r, h', k1, k2⟩ := k
  exact ⟨r, h', pm_fold (by rw [e]; exact ⟨hG, k1⟩), k2⟩
theorem WP.br (e : pm_stp mi pc L st h = s_br G t f st') (kt : G → WP mi t L st' h Q) (kf : ¬ G → WP mi f L st' h Q) : WP mi pc L st h Q := by
  by_cases hG : G
  · obtain ⟨r, h', k1, k2⟩ := kt hG
    exact ⟨r, h', pm_fold (by rw [e]; exact ⟨fun _ => k1, fun q => absurd hG q⟩), k2⟩
  · obtain ⟨r, h', k1, k2⟩ := kf hG
    exact ⟨r, h', pm_fold (by rw [e]; exact ⟨fun q => absurd q hG, fun _ => k1⟩), k2⟩
theorem WP.rt (e : pm_stp mi pc L st h = s_rt G v) (hG : G) (k : Q v h) : WP mi pc L st h Q :=
  ⟨v, h, pm_fold (by rw [e]; exact ⟨hG, rfl, rfl⟩), k⟩
theorem WP.cl (e : pm_stp mi pc L st h = s_cl G mj A rest g) (hG : G) (k : WP mj 0 A [] g (fun r1 h1 => WP mi (pc + 3) L (r1.toList ++ rest) h1 Q)) : WP mi pc L st h Q := by
  obtain ⟨r1, h1, k1, r, h', k2, k3⟩ := k
  exact ⟨r, h', pm_fold (by rw [e]; exact ⟨hG, r1, h1, k1, k2⟩), k3⟩
theorem WP.top {x y : Value} (e : x = y) (k : WP mi pc L (y :: st) h Q) : WP mi pc L (x :: st) h Q := e ▸ k
theorem WP.mono {Q' : Option Value → pm_H → Prop} (k : WP mi pc L st h Q) (hq : ∀ r g, Q r g → Q' r g) : WP mi pc L st h Q' := by
  obtain ⟨r, h', k1, k2⟩ := k
  exact ⟨r, h', k1, hq _ _ k2⟩
end WPR
