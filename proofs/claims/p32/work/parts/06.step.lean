/-! ONE STEP of the pure machine; e: what the rest of the run answers. -/
def zm_call (e : zm_K) (m : Nat) (as : List Value) (h : zm_H) : Option zm_R := match Nat.beq (zm_in (zm_ml m) as).length (zm_ml m) with
  | true => e (m, 0, zm_in (zm_ml m) as, [], h)
  | false => none
/-- a thrown exception comes back to index i of m -/
def zm_hx (e : zm_K) (m i : Nat) (ls : zm_L) (x : Nat) (h : zm_H) : Option zm_R := match zm_ht m with
  | [] => some (.inr x, h)
  | t :: tt => match zm_fd (t :: tt) i x with
    | some (g, k) => e (m, g, zm_s0 ls k, [], h)
    | none => none
def zm_rt (c : Nat) (e : zm_K) (m i : Nat) (ls : zm_L) (st : List Value) (o : Option zm_R) : Option zm_R := match c with
  | 0 => zm_rV o (fun h => e (m, i + 1, ls, st, h)) (fun x h => zm_hx e m i ls x h)
  | 1 => zm_rI o (fun r h => e (m, i + 1, ls, .int r :: st, h)) (fun x h => zm_hx e m i ls x h)
  | _ => zm_rR o (fun r h => e (m, i + 1, ls, .ref r :: st, h)) (fun x h => zm_hx e m i ls x h)
def zm_G (sc : Nat × (Nat → Int32)) (e : zm_K) (m i : Nat) (ls : zm_L) (st : List Value) (h : zm_H) (ins : Instr) (a b c : Nat) (v : Int32) (w : Int64) (ts : List Nat) : Option zm_R :=
  match ins with
  | .iconst _ => e (m, i + 1, ls, .int v :: st, h)
  | .bipush _ => e (m, i + 1, ls, .int v :: st, h)
  | .sipush _ => e (m, i + 1, ls, .int v :: st, h)
  | .ldc _ => (match c with
    | 0 => e (m, i + 1, ls, .int v :: st, h)
    | _ => none)
  | .ldc_w _ => (match c with
    | 0 => e (m, i + 1, ls, .int v :: st, h)
    | _ => none)
  | .lconst _ => e (m, i + 1, ls, .long w :: st, h)
  | .ldc2_w _ => e (m, i + 1, ls, .long w :: st, h)
  | .iload_n _ => (match zm_lc ls a with
    | some (.int x) => e (m, i + 1, ls, .int x :: st, h)
    | _ => none)
  | .iload _ => (match zm_lc ls a with
    | some (.int x) => e (m, i + 1, ls, .int x :: st, h)
    | _ => none)
  | .lload_n _ => (match zm_lc ls a with
    | some (.long x) => e (m, i + 1, ls, .long x :: st, h)
    | _ => none)
  | .lload _ => (match zm_lc ls a with
    | some (.long x) => e (m, i + 1, ls, .long x :: st, h)
    | _ => none)
  | .aload_n _ => (match zm_lc ls a with
    | some (.ref x) => e (m, i + 1, ls, .ref x :: st, h)
    | some (.float x) => e (m, i + 1, ls, .float x :: st, h)
    | _ => none)
  | .aload _ => (match zm_lc ls a with
    | some (.ref x) => e (m, i + 1, ls, .ref x :: st, h)
    | _ => none)
  | .istore_n _ => (match st with
    | .int x :: r => e (m, i + 1, zm_s1 ls a (.int x), r, h)
    | _ => none)
  | .istore _ => (match st with
    | .int x :: r => e (m, i + 1, zm_s1 ls a (.int x), r, h)
    | _ => none)
  | .lstore_n _ => (match st with
    | .long x :: r => e (m, i + 1, zm_s2 ls a (.long x), r, h)
    | _ => none)
  | .lstore _ => (match st with
    | .long x :: r => e (m, i + 1, zm_s2 ls a (.long x), r, h)
    | _ => none)
  | .astore_n _ => (match st with
    | .ref x :: r => e (m, i + 1, zm_s1 ls a (.ref x), r, h)
    | _ => none)
  | .astore _ => (match st with
    | .ref x :: r => e (m, i + 1, zm_s1 ls a (.ref x), r, h)
    | _ => none)
  | .iinc _ _ => (match zm_lc ls a with
    | some (.int x) => e (m, i + 1, zm_s1 ls a (.int (x + v)), st, h)
    | _ => none)
  | .iadd => (match st with
    | .int y :: .int x :: r => e (m, i + 1, ls, .int (x + y) :: r, h)
    | _ => none)
  | .isub => (match st with
    | .int y :: .int x :: r => e (m, i + 1, ls, .int (x - y) :: r, h)
    | _ => none)
  | .imul => (match st with
    | .int y :: .int x :: r => e (m, i + 1, ls, .int (x * y) :: r, h)
    | _ => none)
  | .idiv => (match st with
    | .int y :: .int x :: r => if y = 0 then none else e (m, i + 1, ls, .int (x / y) :: r, h)
    | _ => none)
  | .irem => (match st with
    | .int y :: .int x :: r => if y = 0 then none else e (m, i + 1, ls, .int (x - x / y * y) :: r, h)
    | _ => none)
  | .iand => (match st with
    | .int y :: .int x :: r => e (m, i + 1, ls, .int (x &&& y) :: r, h)
    | _ => none)
  | .ior => (match st with
    | .int y :: .int x :: r => e (m, i + 1, ls, .int (x ||| y) :: r, h)
    | _ => none)
  | .ixor => (match st with
    | .int y :: .int x :: r => e (m, i + 1, ls, .int (x ^^^ y) :: r, h)
    | _ => none)
  | .ishl => (match st with
    | .int y :: .int x :: r => e (m, i + 1, ls, .int (x <<< (y &&& 31)) :: r, h)
    | _ => none)
  | .ishr => (match st with
    | .int y :: .int x :: r => e (m, i + 1, ls, .int (x >>> (y &&& 31)) :: r, h)
    | _ => none)
  | .iushr => (match st with
    | .int y :: .int x :: r => e (m, i + 1, ls, .int ((x.toUInt32 >>> (y.toUInt32 &&& Int32.toUInt32 31)).toInt32) :: r, h)
    | _ => none)
  | .ladd => (match st with
    | .long y :: .long x :: r => e (m, i + 1, ls, .long (x + y) :: r, h)
    | _ => none)
  | .lmul => (match st with
    | .long y :: .long x :: r => e (m, i + 1, ls, .long (x * y) :: r, h)
    | _ => none)
  | .ldiv => (match st with
    | .long y :: .long x :: r => if y = 0 then none else e (m, i + 1, ls, .long (x / y) :: r, h)
    | _ => none)
  | .lrem => (match st with
    | .long y :: .long x :: r => if y = 0 then none else e (m, i + 1, ls, .long (x - x / y * y) :: r, h)
    | _ => none)
  | .land => (match st with
    | .long y :: .long x :: r => e (m, i + 1, ls, .long (x &&& y) :: r, h)
    | _ => none)
  | .lor => (match st with
    | .long y :: .long x :: r => e (m, i + 1, ls, .long (x ||| y) :: r, h)
    | _ => none)
  | .lshl => (match st with
    | .int y :: .long x :: r => e (m, i + 1, ls, .long (x <<< (y.toInt64 &&& 63)) :: r, h)
    | _ => none)
  | .lushr => (match st with
    | .int y :: .long x :: r => e (m, i + 1, ls, .long ((x.toUInt64 >>> (y.toInt64.toUInt64 &&& Int64.toUInt64 63)).toInt64) :: r, h)
    | _ => none)
  | .lcmp => (match st with
    | .long y :: .long x :: r => e (m, i + 1, ls, .int (lg_cmp x y) :: r, h)
    | _ => none)
  | .i2l => (match st with
    | .int x :: r => e (m, i + 1, ls, .long x.toInt64 :: r, h)
    | _ => none)
  | .l2i => (match st with
    | .long x :: r => e (m, i + 1, ls, .int x.toInt32 :: r, h)
    | _ => none)
  | .dup => (match st with
    | .int x :: r => e (m, i + 1, ls, .int x :: .int x :: r, h)
    | .ref x :: r => e (m, i + 1, ls, .ref x :: .ref x :: r, h)
    | _ => none)
  | .dup2 => (match st with
    | .int y :: .ref x :: r => e (m, i + 1, ls, .int y :: .ref x :: .int y :: .ref x :: r, h)
    | _ => none)
  | .pop => (match st with
    | .int _ :: r => e (m, i + 1, ls, r, h)
    | .ref _ :: r => e (m, i + 1, ls, r, h)
    | _ => none)
  | .goto _ => e (m, a, ls, st, h)
  | .if_icmp .eq _ => (match st with
    | .int y :: .int x :: r => if x = y then e (m, a, ls, r, h) else e (m, i + 1, ls, r, h)
    | _ => none)
  | .if_icmp .ne _ => (match st with
    | .int y :: .int x :: r => if x = y then e (m, i + 1, ls, r, h) else e (m, a, ls, r, h)
    | _ => none)
  | .if_icmp .lt _ => (match st with
    | .int y :: .int x :: r => if x < y then e (m, a, ls, r, h) else e (m, i + 1, ls, r, h)
    | _ => none)
  | .if_icmp .ge _ => (match st with
    | .int y :: .int x :: r => if y ≤ x then e (m, a, ls, r, h) else e (m, i + 1, ls, r, h)
    | _ => none)
  | .if_icmp .gt _ => (match st with
    | .int y :: .int x :: r => if y < x then e (m, a, ls, r, h) else e (m, i + 1, ls, r, h)
    | _ => none)
  | .if_icmp .le _ => (match st with
    | .int y :: .int x :: r => if x ≤ y then e (m, a, ls, r, h) else e (m, i + 1, ls, r, h)
    | _ => none)
  | .ifCond .eq _ => (match st with
    | .int x :: r => if x = 0 then e (m, a, ls, r, h) else e (m, i + 1, ls, r, h)
    | _ => none)
  | .ifCond .ne _ => (match st with
    | .int x :: r => if x = 0 then e (m, i + 1, ls, r, h) else e (m, a, ls, r, h)
    | _ => none)
  | .ifCond .lt _ => (match st with
    | .int x :: r => if x < 0 then e (m, a, ls, r, h) else e (m, i + 1, ls, r, h)
    | _ => none)
  | .ifCond .ge _ => (match st with
    | .int x :: r => if 0 ≤ x then e (m, a, ls, r, h) else e (m, i + 1, ls, r, h)
    | _ => none)
  | .ifCond .gt _ => (match st with
    | .int x :: r => if 0 < x then e (m, a, ls, r, h) else e (m, i + 1, ls, r, h)
    | _ => none)
  | .ifCond .le _ => (match st with
    | .int x :: r => if x ≤ 0 then e (m, a, ls, r, h) else e (m, i + 1, ls, r, h)
    | _ => none)
  | .ifnull _ => (match st with
    | .ref _ :: r => e (m, i + 1, ls, r, h)
    | _ => none)
  | .tableswitch _ _ _ _ => (match st with
    | .int x :: r => e (m, zm_sw ts a v x, ls, r, h)
    | _ => none)
  | .getfield _ => (match st with
    | .ref o :: r => (match c with
      | 0 => (zm_gI h o a b).bind fun x => e (m, i + 1, ls, .int x :: r, h)
      | 2 => (zm_gI h o a b).bind fun x => e (m, i + 1, ls, .int x :: r, h)
      | _ => (zm_gR h o a b).bind fun x => e (m, i + 1, ls, .ref x :: r, h))
    | _ => none)
  | .putfield _ => (match c with
    | 0 => (match st with
      | .int x :: .ref o :: r => (zm_pt h o a b (.int x)).bind fun h' => e (m, i + 1, ls, r, h')
      | _ => none)
    | 2 => (match st with
      | .int x :: .ref o :: r => if x = 0 then (zm_pt h o a b (.int 0)).bind fun h' => e (m, i + 1, ls, r, h') else if x = 1 then (zm_pt h o a b (.int 1)).bind fun h' => e (m, i + 1, ls, r, h') else none
      | _ => none)
    | _ => (match st with
      | .ref x :: .ref o :: r => (zm_pt h o a b (.ref x)).bind fun h' => e (m, i + 1, ls, r, h')
      | _ => none))
  | .iaload => (match st with
    | .int x :: .ref o :: r => (zm_aI h o x).bind fun y => e (m, i + 1, ls, .int y :: r, h)
    | .int x :: .float _ :: r => (zm_ix x sc.1).bind fun k => e (m, i + 1, ls, .int (sc.2 k) :: r, h)
    | _ => none)
  | .laload => (match st with
    | .int x :: .ref o :: r => (zm_aL h o x).bind fun y => e (m, i + 1, ls, .long y :: r, h)
    | _ => none)
  | .baload => (match st with
    | .int x :: .ref o :: r => (zm_aZ h o x).bind fun y => e (m, i + 1, ls, .int y :: r, h)
    | _ => none)
  | .aaload => (match st with
    | .int x :: .ref o :: r => (zm_aR h o x).bind fun y => e (m, i + 1, ls, .ref y :: r, h)
    | _ => none)
  | .iastore => (match st with
    | .int y :: .int x :: .ref o :: r => (zm_sI h o x y).bind fun h' => e (m, i + 1, ls, r, h')
    | _ => none)
  | .lastore => (match st with
    | .long y :: .int x :: .ref o :: r => (zm_sL h o x y).bind fun h' => e (m, i + 1, ls, r, h')
    | _ => none)
  | .bastore => (match st with
    | .int y :: .int x :: .ref o :: r => (zm_sZ h o x y).bind fun h' => e (m, i + 1, ls, r, h')
    | _ => none)
  | .aastore => (match st with
    | .ref y :: .int x :: .ref o :: r => (zm_sR h o x y).bind fun h' => e (m, i + 1, ls, r, h')
    | _ => none)
  | .arraylength => (match st with
    | .ref o :: r => (zm_ln h o).bind fun n => e (m, i + 1, ls, .int (Int32.ofNat n) :: r, h)
    | .float _ :: r => e (m, i + 1, ls, .int (Int32.ofNat sc.1) :: r, h)
    | _ => none)
  | .new _ => (match c with
    | 0 => e (m, i + 1, ls, .ref h.1 :: st, zm_nw h (.inr (a, zm_ds a)) (zm_cl a).2.2)
    | _ => (match st with
      | [] => some (.inr a, zm_th h)
      | _ => none))
  | .newarray _ => (match st with
    | .int x :: r => (zm_ix x 100001).bind fun k => (match a with
      | 0 => e (m, i + 1, ls, .ref h.1 :: r, zm_nw h (.inl (.int, k, .inl fun _ => 0)) k)
      | 1 => e (m, i + 1, ls, .ref h.1 :: r, zm_nw h (.inl (.long, k, .inr (.inl fun _ => 0))) k)
      | _ => e (m, i + 1, ls, .ref h.1 :: r, zm_nw h (.inl (.boolean, k, .inl fun _ => 0)) k))
    | _ => none)
  | .anewarray _ => (match st with
    | .int x :: r => (zm_ix x 100001).bind fun k => e (m, i + 1, ls, .ref h.1 :: r, zm_nw h (.inl (.object RX1, k, .inr (.inr fun _ => none))) k)
    | _ => none)
  | .invokevirtual _ => (zm_pa b [] st).bind fun q => (match q.2 with
    | .ref o :: r => (match zm_is h o (ts.headD 0) && Nat.ble (zm_cs r) 8 with
      | true => zm_rt c e m i ls r (zm_call e a (.ref o :: q.1) h)
      | false => none)
    | _ => none)
  | .invokestatic _ => (match a with
    | 1000 => (match st with
      | .int n :: .int dp :: .ref d :: .int sp :: .ref s :: r => (match Nat.ble (zm_cs r) 8 with
        | true => (zm_cp h s sp d dp n).bind fun h' => e (m, i + 1, ls, r, h')
        | false => none)
      | _ => none)
    | 1003 => (match st with
      | .int y :: .int x :: r => (match Nat.ble (zm_cs r) 8 with
        | true => e (m, i + 1, ls, .int (if y < x then y else x) :: r, h)
        | false => none)
      | _ => none)
    | a => (zm_pa b [] st).bind fun q => (match Nat.ble (zm_cs q.2) 8 with
      | true => zm_rt c e m i ls q.2 (zm_call e a q.1 h)
      | false => none))
  | .invokespecial _ => (match a with
    | 1001 => (match st with
      | .ref _ :: r => (match Nat.ble (zm_cs r) 8 with
        | true => e (m, i + 1, ls, r, h)
        | false => none)
      | _ => none)
    | 1002 => none
    | a => (zm_pa b [] st).bind fun q => (match q.2 with
      | .ref o :: r => (match Nat.ble (zm_cs r) 8 with
        | true => zm_rt c e m i ls r (zm_call e a (.ref o :: q.1) h)
        | false => none)
      | _ => none))
  | .ireturn => (match st with
    | [.int x] => (match a with
      | 0 => some (.inl (some (.int x)), h)
      | _ => zm_bo x h)
    | _ => none)
  | .areturn => (match st with
    | [.ref x] => some (.inl (some (.ref x)), h)
    | _ => none)
  | .return_ => (match st with
    | [] => some (.inl none, h)
    | _ => none)
  | _ => none
def zm_F (sc : Nat × (Nat → Int32)) (e : zm_K) : zm_K := fun x => match x with
  | (m, i, ls, st, h) => match (zm_cd m)[i]? with
    | none => none
    | some (_, ins, _, a, b, c, v, w, ts) => zm_G sc e m i ls st h ins a b c v w ts
/-- n steps of depth and length -/
def zm_run (sc : Nat × (Nat → Int32)) : Nat → zm_K
  | 0 => fun _ => none
  | n + 1 => zm_F sc (zm_run sc n)
