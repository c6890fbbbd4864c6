/-! WHAT THE TABLES SAY IS SO: each entry is the instruction at its place, and the words that it needs stand among lw_tbl. -/
def zc_ok (i : Nat) (w : Cond) : Bool := decide (lw_tbl[i]? = some w) && goodWord w
def zm_cw (m : Nat) : Cond := match zm_hh m with
  | [] => .code (zm_nm m) (zm_by m) (zm_ml m) (zm_re m)
  | t :: tt => .codeWith (zm_nm m) (zm_by m) (zm_ml m) (zm_re m) (t :: tt)
/-- the place of the next entry -/
def zc_np : List zm_E → Option Nat
  | [] => none
  | e :: _ => some e.1
def zc_nx (nx : Option Nat) (k : Nat) : Bool := match nx with
  | some e => Nat.beq e k
  | none => false
def zc_tg (m t bp : Nat) (off : Int) : Bool := match (zm_cd m)[t]? with
  | some e => decide ((bp : Int) + off = (e.1 : Int))
  | none => false
def zc_sw (m bp : Nat) : List Nat → List Int → Bool
  | [], [] => true
  | t :: ts, o :: os => zc_tg m t bp o && zc_sw m bp ts os
  | _, _ => false
def zc_rf (t : FieldType) : Bool := match t with
  | .object _ => true
  | .array _ => true
  | _ => false
def zc_rk (c : Nat) (r : Option FieldType) : Bool := match c, r with
  | 0, none => true
  | 1, some .int => true
  | 1, some .boolean => true
  | 2, some (.object _) => true
  | _, _ => false
/-- a callee: its code word, how many arguments, the room, what it hands back -/
def zc_cl (m a b c pc : Nat) : Bool := zc_ok pc (zm_cw a) && decide (a < zm_n) && decide ((parseMethodDescriptor (zm_nm a).desc).map (fun d => d.parameters.length) = some b) && zc_rk c (zm_re a) &&
  decide ((zm_nm a).cls ≠ "java/lang/invoke/MethodHandle" ∧ (zm_nm a).cls ≠ "java/lang/invoke/VarHandle") && Nat.ble (zm_rf a + 1) (zm_rf m) && Nat.ble (8 + (zm_ml a + 11) + zm_rl a) (zm_rl m)
def zc_fd (m idx a b c p : Nat) : Bool := match vwCl[a]? with
  | some q => Nat.blt b q.2.2 && zc_ok p (.fieldLink (zm_ow m) idx (q.2.1 b).1 (q.2.1 b).2.1 (q.2.1 b).2.2.1) && (match c with
    | 0 => decide (zm_ty a b = .int)
    | 2 => decide (zm_ty a b = .boolean)
    | _ => zc_rf (zm_ty a b))
  | none => false
/-- the four rows of 'throw new E("text")' behind the new -/
def zc_th (m bp ik a : Nat) (ts ps : List Nat) : Bool := match ts, ps with
  | [is, ic, wd, si], [p0, p1, p2] => zc_ok p0 (.classLink (zm_ow m) ik (zm_ex a)) && zc_ok p1 (.initialized (zm_ex a)) && zc_ok p2 (.methodLink (zm_ow m) ic (Bundle.initS (zm_ex a))) && decide (zm_ow m = RX7) && decide (a < 3) &&
      decide ((zm_tx[si]?).map (fun q => q.1) = some is) && decide (zm_hh m = []) &&
      decide (decode (zm_by m) (bp + 3) = .ok (.dup, 1)) && (match wd with
      | 0 => decide (decode (zm_by m) (bp + 4) = .ok (.ldc is, 2)) && decide (decode (zm_by m) (bp + 6) = .ok (.invokespecial ic, 3)) && decide (decode (zm_by m) (bp + 9) = .ok (.athrow, 1))
      | _ => decide (decode (zm_by m) (bp + 4) = .ok (.ldc_w is, 3)) && decide (decode (zm_by m) (bp + 7) = .ok (.invokespecial ic, 3)) && decide (decode (zm_by m) (bp + 10) = .ok (.athrow, 1))) &&
      Nat.ble 6 (zm_rf m) && Nat.ble 82 (zm_rl m)
  | _, _ => false
def zc_lk (m idx a : Nat) (v : Int32) (p : Nat) : Bool := if v = 0 then zc_ok p (.methodLink (zm_ow m) idx (zm_nm a)) else decide (zm_nest[p]? = some (zm_ow m, idx, zm_nm a, "TradeRings"))
def zc_in (m : Nat) (nx : Option Nat) (bp : Nat) (ins : Instr) (len a b c : Nat) (v : Int32) (w : Int64) (ts ps : List Nat) : Bool :=
  decide (decode (zm_by m) bp = .ok (ins, len)) && (match ins with
  | .iconst n => decide (Int32.ofInt n = v) && Nat.beq len 1 && zc_nx nx (bp + 1)
  | .bipush n => decide ((Int8.ofInt n).toInt32 = v) && Nat.beq len 2 && zc_nx nx (bp + 2)
  | .sipush n => decide ((Int16.ofInt n).toInt32 = v) && Nat.beq len 3 && zc_nx nx (bp + 3)
  | .ldc k => (match c with
    | 0 => (match ps with
      | [p] => zc_ok p (.constant (zm_ow m) k v) && Nat.beq len 2 && zc_nx nx (bp + 2)
      | _ => false)
    | _ => true)
  | .ldc_w k => (match c with
    | 0 => (match ps with
      | [p] => zc_ok p (.constant (zm_ow m) k v) && Nat.beq len 3 && zc_nx nx (bp + 3)
      | _ => false)
    | _ => true)
  | .lconst n => decide (Int64.ofNat (n : Nat) = w) && Nat.beq len 1 && zc_nx nx (bp + 1)
  | .ldc2_w k => (match ps with
    | [p] => zc_ok p (.constantLong (zm_ow m) k w) && Nat.beq len 3 && zc_nx nx (bp + 3)
    | _ => false)
  | .iload_n k => Nat.beq k a && Nat.beq len 1 && zc_nx nx (bp + 1)
  | .lload_n k => Nat.beq k a && Nat.beq len 1 && zc_nx nx (bp + 1)
  | .aload_n k => Nat.beq k a && Nat.beq len 1 && zc_nx nx (bp + 1)
  | .iload k => Nat.beq k a && Nat.beq len 2 && zc_nx nx (bp + 2)
  | .lload k => Nat.beq k a && Nat.beq len 2 && zc_nx nx (bp + 2)
  | .aload k => Nat.beq k a && Nat.beq len 2 && zc_nx nx (bp + 2)
  | .istore_n k => Nat.beq k a && Nat.blt a (zm_ml m) && Nat.beq len 1 && zc_nx nx (bp + 1)
  | .astore_n k => Nat.beq k a && Nat.blt a (zm_ml m) && Nat.beq len 1 && zc_nx nx (bp + 1)
  | .lstore_n k => Nat.beq k a && Nat.blt (a + 1) (zm_ml m) && Nat.beq len 1 && zc_nx nx (bp + 1)
  | .istore k => Nat.beq k a && Nat.blt a (zm_ml m) && Nat.beq len 2 && zc_nx nx (bp + 2)
  | .astore k => Nat.beq k a && Nat.blt a (zm_ml m) && Nat.beq len 2 && zc_nx nx (bp + 2)
  | .lstore k => Nat.beq k a && Nat.blt (a + 1) (zm_ml m) && Nat.beq len 2 && zc_nx nx (bp + 2)
  | .iinc k n => Nat.beq k a && Nat.blt a (zm_ml m) && decide (Int32.ofInt n = v) && Nat.beq len 3 && zc_nx nx (bp + 3)
  | .goto o => Nat.beq len 3 && zc_tg m a bp o
  | .if_icmp _ o => Nat.beq len 3 && zc_tg m a bp o && zc_nx nx (bp + 3)
  | .ifCond _ o => Nat.beq len 3 && zc_tg m a bp o && zc_nx nx (bp + 3)
  | .ifnull _ => Nat.beq len 3 && zc_nx nx (bp + 3)
  | .tableswitch d lo hi os => zc_tg m a bp d && zc_sw m bp ts os.toList && decide (lo = v.toInt) && decide (hi = v.toInt + (ts.length : Int) - 1) && Nat.blt 0 ts.length
  | .getfield k => (match ps with
    | [p] => zc_fd m k a b c p && Nat.beq len 3 && zc_nx nx (bp + 3)
    | _ => false)
  | .putfield k => (match ps with
    | [p] => zc_fd m k a b c p && Nat.beq len 3 && zc_nx nx (bp + 3) && (((zm_cl a).2.1 b).2.2.2 == false || (decide ((zm_nm m).name = "<init>") && decide (((zm_cl a).2.1 b).1 = zm_ow m)))
    | _ => false)
  | .new k => (match c with
    | 0 => (match ps with
      | [p0, p1, p2] => zc_ok p0 (.classLink (zm_ow m) k (zm_cl a).1) && zc_ok p1 (.instantiable (zm_cl a).1 (zm_cl a).2.2) && zc_ok p2 (.initialized (zm_cl a).1) && Nat.blt a 9 && Nat.beq len 3 && zc_nx nx (bp + 3)
      | _ => false)
    | _ => zc_th m bp k a ts ps && Nat.beq len 3)
  | .newarray t => (match ps with
    | [p] => zc_ok p (.arrayClass (newarray.typeOf t)) && Nat.beq len 2 && zc_nx nx (bp + 2) && (match a with
      | 0 => decide (newarray.typeOf t = .int)
      | 1 => decide (newarray.typeOf t = .long)
      | _ => decide (newarray.typeOf t = .boolean))
    | _ => false)
  | .anewarray k => (match ps with
    | [p] => zc_ok p (.classLink (zm_ow m) k RX1) && Nat.beq len 3 && zc_nx nx (bp + 3)
    | _ => false)
  | .invokevirtual k => (match ts, ps with
    | [ci], [p0, p1, p2, p3, p4] => zc_lk m k a v p0 && zc_ok p1 (.instanceMethod (zm_nm a)) && zc_ok p2 (.selects (zm_cl ci).1 (zm_nm a) (zm_nm a)) && zc_ok p3 (.initialized (zm_nm a).cls) && Nat.blt ci 9 &&
        zc_cl m a b c p4 && decide (zm_hh a = []) && Nat.beq len 3 && zc_nx nx (bp + 3)
    | _, _ => false)
  | .invokestatic k => (match a with
    | 1000 => (match ps with
      | [p0, p1, p2, p3] => zc_ok p0 (.methodLink (zm_ow m) k arraycopyName) && zc_ok p1 (.native arraycopyName) && zc_ok p2 (.static arraycopyName) && zc_ok p3 (.initialized "java/lang/System") && Nat.beq len 3 && zc_nx nx (bp + 3) &&
          Nat.ble 1 (zm_rf m) && Nat.ble 40 (zm_rl m)
      | _ => false)
    | 1003 => (match ps with
      | [p0, p1, p2, p3] => zc_ok p0 (.methodLink (zm_ow m) k Lib.Math.min.name) && zc_ok p1 (.static Lib.Math.min.name) && zc_ok p2 (.initialized "java/lang/Math") && zc_ok p3 (.code Lib.Math.min.name Lib.Math.min.code 2 (some .int)) && Nat.beq len 3 && zc_nx nx (bp + 3) &&
          Nat.ble 1 (zm_rf m) && Nat.ble 40 (zm_rl m)
      | _ => false)
    | a => (match ps with
      | [p0, p1, p2, p3] => zc_lk m k a v p0 && zc_ok p1 (.static (zm_nm a)) && zc_ok p2 (.initialized (zm_nm a).cls) && zc_cl m a b c p3 && (decide (zm_hh a = []) || decide (v = 0)) && Nat.beq len 3 && zc_nx nx (bp + 3)
      | _ => false))
  | .invokespecial k => (match a with
    | 1001 => (match ps with
      | [p0, p1, p2] => zc_ok p0 (.methodLink (zm_ow m) k Lib.objectInit) && zc_ok p1 (.instanceMethod Lib.objectInit) && zc_ok p2 (.code Lib.objectInit ⟨#[0xb1]⟩ 1 none) && Nat.beq len 3 && zc_nx nx (bp + 3) &&
          Nat.ble 1 (zm_rf m) && Nat.ble 20 (zm_rl m)
      | _ => false)
    | 1002 => true
    | a => (match ps with
      | [p0, p1, p2, p3] => zc_lk m k a v p0 && zc_ok p1 (.instanceMethod (zm_nm a)) && zc_ok p2 (.initialized (zm_nm a).cls) && zc_cl m a b c p3 && decide ((zm_nm a).name = "<init>") && decide (zm_hh a = []) && decide (zm_re a = none) && Nat.beq len 3 && zc_nx nx (bp + 3)
      | _ => false))
  | .ireturn => Nat.beq len 1 && (match a with
    | 0 => decide (zm_re m = some .int)
    | _ => decide (zm_re m = some .boolean))
  | .areturn => Nat.beq len 1 && (match zm_re m with
    | some (.object _) => true
    | _ => false)
  | .return_ => Nat.beq len 1 && decide (zm_re m = none)
  | .athrow => true
  | _ => Nat.beq len 1 && zc_nx nx (bp + 1))
/-- a handler's row: from, to, where, and what it takes -/
def zc_h1 (m : Nat) (q : Nat × Nat × Nat × Nat × Nat) (z : Nat × Nat × Nat × Nat) (p : Nat) : Bool :=
  (match (zm_cd m)[q.1]?, (zm_cd m)[q.2.1]?, (zm_cd m)[q.2.2.2.1 - 1]?, (zm_cd m)[q.2.2.2.1]? with
  | some e0, some e1, some e2, some e3 => Nat.beq e0.1 z.1 && Nat.beq e1.1 z.2.1 && Nat.beq e2.1 z.2.2.1 && Nat.blt 0 q.2.2.2.1 && Nat.blt q.2.2.2.2 (zm_ml m) && (match e2.2.1 with
      | .astore_n k => Nat.beq k q.2.2.2.2 && Nat.beq e3.1 (e2.1 + 1)
      | .astore k => Nat.beq k q.2.2.2.2 && Nat.beq e3.1 (e2.1 + 2)
      | _ => false)
  | _, _, _, _ => false) && decide (q.2.2.1 < 3) && !(Nat.beq z.2.2.2 0) && zc_ok p (.classLink (zm_ow m) z.2.2.2 (zm_ex q.2.2.1))
def zc_hs (m : Nat) : List (Nat × Nat × Nat × Nat × Nat) → List (Nat × Nat × Nat × Nat) → List Nat → Bool
  | [], [], [] => true
  | q :: qs, z :: zs, p :: ps => zc_h1 m q z p && zc_hs m qs zs ps
  | _, _, _ => false
/-- the indices of one method rise with its places: an index below another lies below it -/
def zc_up : List zm_E → Bool
  | [] => true
  | e :: r => (match r with
    | [] => true
    | f :: _ => Nat.blt e.1 f.1) && zc_up r
def zc_ro (m : Nat) : List zm_E → List (List Nat) → Option Nat → Bool
  | [], [], _ => true
  | (bp, ins, len, a, b, c, v, w, ts) :: es, ps :: pss, z => zc_in m (match es with
    | [] => z
    | e :: _ => some e.1) bp ins len a b c v w ts ps && zc_ro m es pss z
  | _, _, _ => false
def zc_m0 (m : Nat) (hp : List Nat) : Bool := zc_hs m (zm_ht m) (zm_hh m) hp && zc_up (zm_cd m) && decide (plainName (zm_nm m).cls = true) && decide ((zm_nm m).cls = zm_ow m) &&
  (match (zm_cd m)[0]? with
  | some e => Nat.beq e.1 0
  | none => false)
def zc_me (m : Nat) (hp : List Nat) : Bool := zc_ro m (zm_cd m) (zm_ps m) none && zc_m0 m hp
theorem zc_ro_app (m : Nat) (e1 : List zm_E) (p1 : List (List Nat)) (x : zm_E) (e2 : List zm_E) (p2 : List (List Nat)) (z : Option Nat) (h1 : zc_ro m e1 p1 (some x.1) = true) (h2 : zc_ro m (x :: e2) p2 z = true) : zc_ro m (e1 ++ x :: e2) (p1 ++ p2) z = true := by
  induction e1 generalizing p1 with
  | nil =>
    cases p1 with
    | nil => exact h2
    | cons a b => simp [zc_ro] at h1
  | cons e es ih =>
    obtain ⟨bp, ins, len, a, b, c, v, w, ts⟩ := e
    cases p1 with
    | nil => simp [zc_ro] at h1
    | cons ps pss =>
      simp only [zc_ro, Bool.and_eq_true] at h1
      simp only [List.cons_append, zc_ro, Bool.and_eq_true]
      refine ⟨?_, ih pss h1.2⟩
      have h3 := h1.1
      cases es with
      | nil => exact h3
      | cons f fs => exact h3
