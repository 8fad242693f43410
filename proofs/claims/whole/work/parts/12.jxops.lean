/-! EACH OPERATION IS WHAT ITS INSTRUCTION DOES -/
section JO
variable {X : jx_X} {mt : Nat → jx_D} {md : jx_D} {pc : Nat}
theorem s_iconst {n : Int} {v : Int32} (hd : decode md.2.1 pc = .ok (.iconst n, 1)) (hv : Int32.ofInt n = v) : jx_S X mt md pc (o_push (.int v) 1) := by
  intro p l e R s m args below meth c d B L st M N h H ls locs cells slots I
  cases h
  intro Q k
  obtain ⟨hx, -, -, -, -, -, -, hb, -⟩ := B
  exact lv_iconst hx hb hd hv (k _ _ _ _ _ I)
theorem s_bipush {n : Int} {v : Int32} (hd : decode md.2.1 pc = .ok (.bipush n, 2)) (hv : (Int8.ofInt n).toInt32 = v) : jx_S X mt md pc (o_push (.int v) 2) := by
  intro p l e R s m args below meth c d B L st M N h H ls locs cells slots I
  cases h
  intro Q k
  obtain ⟨hx, -, -, -, -, -, -, hb, -⟩ := B
  exact lv_bipush hx hb hd hv (k _ _ _ _ _ I)
theorem s_sipush {n : Int} {v : Int32} (hd : decode md.2.1 pc = .ok (.sipush n, 3)) (hv : (Int16.ofInt n).toInt32 = v) : jx_S X mt md pc (o_push (.int v) 3) := by
  intro p l e R s m args below meth c d B L st M N h H ls locs cells slots I
  cases h
  intro Q k
  obtain ⟨hx, -, -, -, -, -, -, hb, -⟩ := B
  exact lv_sipush hx hb hd hv (k _ _ _ _ _ I)
theorem s_null (hd : decode md.2.1 pc = .ok (.aconst_null, 1)) : jx_S X mt md pc (o_push .null 1) := by
  intro p l e R s m args below meth c d B L st M N h H ls locs cells slots I
  cases h
  intro Q k
  obtain ⟨hx, -, -, -, -, -, -, hb, -⟩ := B
  exact lv_null hx hb hd (k _ _ _ _ _ I)
theorem s_lconst {n : Fin 2} {v : Int64} (hd : decode md.2.1 pc = .ok (.lconst n, 1)) (hv : Int64.ofNat (n : Nat) = v) : jx_S X mt md pc (o_push (.long v) 1) := by
  intro p l e R s m args below meth c d B L st M N h H ls locs cells slots I
  cases h
  intro Q k
  obtain ⟨hx, -, -, -, -, -, -, hb, -⟩ := B
  exact lv_lconst hx hb hd hv (k _ _ _ _ _ I)
theorem s_ldc2 {i : Nat} {v : Int64} (hd : decode md.2.1 pc = .ok (.ldc2_w i, 3)) (hw : (Cond.constantLong md.1.cls i v : Cond) ∈ X.W) : jx_S X mt md pc (o_push (.long v) 3) := by
  intro p l e R s m args below meth c d B L st M N h H ls locs cells slots I
  cases h
  intro Q k
  obtain ⟨hx, -, hts, -, -, hown, -, hb, -⟩ := B
  exact lv_ldc2 hx hb hown (hts _ hw) hd (k _ _ _ _ _ I)
theorem s_ldc {i : Nat} {v : Int32} (hd : decode md.2.1 pc = .ok (.ldc i, 2)) (hw : (Cond.constant md.1.cls i v : Cond) ∈ X.W) : jx_S X mt md pc (o_push (.int v) 2) := by
  intro p l e R s m args below meth c d B L st M N h H ls locs cells slots I
  cases h
  intro Q k
  obtain ⟨hx, -, hts, -, -, hown, -, hb, -⟩ := B
  exact lv_ldc hx hb hown (hts _ hw) hd (k _ _ _ _ _ I)
theorem s_iload_n {i : Nat} {n : Fin 4} (hd : decode md.2.1 pc = .ok (.iload_n n, 1)) (hi : (n : Nat) = i) : jx_S X mt md pc (o_ild i 1) := by
  intro p l e R s m args below meth c d B L st M N h H ls locs cells slots I
  unfold o_ild at h
  split at h
  · rename_i x hx0
    cases h
    intro Q k
    obtain ⟨hx, -, -, -, -, -, -, hb, -⟩ := B
    exact lv_iload_n hx hb hd hi (I.2.1.2.2 _ _ hx0) (k _ _ _ _ _ I)
  · cases h
theorem s_iload {i : Nat} (hd : decode md.2.1 pc = .ok (.iload i, 2)) : jx_S X mt md pc (o_ild i 2) := by
  intro p l e R s m args below meth c d B L st M N h H ls locs cells slots I
  unfold o_ild at h
  split at h
  · rename_i x hx0
    cases h
    intro Q k
    obtain ⟨hx, -, -, -, -, -, -, hb, -⟩ := B
    exact lv_iload hx hb hd (I.2.1.2.2 _ _ hx0) (k _ _ _ _ _ I)
  · cases h
theorem s_lload_n {i : Nat} {n : Fin 4} (hd : decode md.2.1 pc = .ok (.lload_n n, 1)) (hi : (n : Nat) = i) : jx_S X mt md pc (o_lld i 1) := by
  intro p l e R s m args below meth c d B L st M N h H ls locs cells slots I
  unfold o_lld at h
  split at h
  · rename_i x hx0
    cases h
    intro Q k
    obtain ⟨hx, -, -, -, -, -, -, hb, -⟩ := B
    exact lv_lload_n hx hb hd hi (I.2.1.2.2 _ _ hx0) (k _ _ _ _ _ I)
  · cases h
theorem s_lload {i : Nat} (hd : decode md.2.1 pc = .ok (.lload i, 2)) : jx_S X mt md pc (o_lld i 2) := by
  intro p l e R s m args below meth c d B L st M N h H ls locs cells slots I
  unfold o_lld at h
  split at h
  · rename_i x hx0
    cases h
    intro Q k
    obtain ⟨hx, -, -, -, -, -, -, hb, -⟩ := B
    exact lv_lload hx hb hd (I.2.1.2.2 _ _ hx0) (k _ _ _ _ _ I)
  · cases h
theorem s_aload_n {i : Nat} {n : Fin 4} (hd : decode md.2.1 pc = .ok (.aload_n n, 1)) (hi : (n : Nat) = i) : jx_S X mt md pc (o_ald i 1) := by
  intro p l e R s m args below meth c d B L st M N h H ls locs cells slots I
  obtain ⟨hx, -, -, -, -, -, -, hb, -⟩ := B
  unfold o_ald at h
  split at h
  · rename_i x hx0
    cases h
    intro Q k
    exact lv_aload_n hx hb hd hi (I.2.1.2.2 _ _ hx0) (k _ _ _ _ _ I)
  · rename_i hx0
    cases h
    intro Q k
    exact lv_aload_nN hx hb hd hi (I.2.1.2.2 _ _ hx0) (k _ _ _ _ _ I)
  · cases h
theorem s_aload {i : Nat} (hd : decode md.2.1 pc = .ok (.aload i, 2)) : jx_S X mt md pc (o_ald i 2) := by
  intro p l e R s m args below meth c d B L st M N h H ls locs cells slots I
  obtain ⟨hx, -, -, -, -, -, -, hb, -⟩ := B
  unfold o_ald at h
  split at h
  · rename_i x hx0
    cases h
    intro Q k
    exact lv_aload hx hb hd (I.2.1.2.2 _ _ hx0) (k _ _ _ _ _ I)
  · rename_i hx0
    cases h
    intro Q k
    exact lv_aloadN hx hb hd (I.2.1.2.2 _ _ hx0) (k _ _ _ _ _ I)
  · cases h
theorem s_istore_n {i : Nat} {n : Fin 4} (hd : decode md.2.1 pc = .ok (.istore_n n, 1)) (hi : (n : Nat) = i) : jx_S X mt md pc (o_ist i 1) := by
  intro p l e R s m args below meth c d B L st M N h H ls locs cells slots I
  obtain ⟨hx, -, -, -, -, -, -, hb, -⟩ := B
  unfold o_ist at h
  split at h
  · obtain ⟨L', h1, h2⟩ := Option.map_eq_some_iff.mp h
    cases h2
    intro Q k
    exact lv_istore_n hx hb hd hi I.2.1.has (jx_s1_lt h1) rfl fun ls' h' => k _ _ _ _ _ ⟨I.1, jx_lo.set1 h1 h', I.2.2.1, I.2.2.2.1, I.2.2.2.2.1, (jx_s1_len h1).trans I.2.2.2.2.2⟩
  · cases h
theorem s_istore {i : Nat} (hd : decode md.2.1 pc = .ok (.istore i, 2)) : jx_S X mt md pc (o_ist i 2) := by
  intro p l e R s m args below meth c d B L st M N h H ls locs cells slots I
  obtain ⟨hx, -, -, -, -, -, -, hb, -⟩ := B
  unfold o_ist at h
  split at h
  · obtain ⟨L', h1, h2⟩ := Option.map_eq_some_iff.mp h
    cases h2
    intro Q k
    exact lv_istore hx hb hd I.2.1.has (jx_s1_lt h1) rfl fun ls' h' => k _ _ _ _ _ ⟨I.1, jx_lo.set1 h1 h', I.2.2.1, I.2.2.2.1, I.2.2.2.2.1, (jx_s1_len h1).trans I.2.2.2.2.2⟩
  · cases h
theorem s_lstore_n {i : Nat} {n : Fin 4} (hd : decode md.2.1 pc = .ok (.lstore_n n, 1)) (hi : (n : Nat) = i) : jx_S X mt md pc (o_lst i 1) := by
  intro p l e R s m args below meth c d B L st M N h H ls locs cells slots I
  obtain ⟨hx, -, -, -, -, -, -, hb, -⟩ := B
  unfold o_lst at h
  split at h
  · obtain ⟨L', h1, h2⟩ := Option.map_eq_some_iff.mp h
    cases h2
    intro Q k
    exact lv_lstore_n hx hb hd hi I.2.1.has (jx_s2_lt h1) rfl fun ls' h' => k _ _ _ _ _ ⟨I.1, jx_lo.set2 h1 h', I.2.2.1, I.2.2.2.1, I.2.2.2.2.1, (jx_s2_len h1).trans I.2.2.2.2.2⟩
  · cases h
theorem s_lstore {i : Nat} (hd : decode md.2.1 pc = .ok (.lstore i, 2)) : jx_S X mt md pc (o_lst i 2) := by
  intro p l e R s m args below meth c d B L st M N h H ls locs cells slots I
  obtain ⟨hx, -, -, -, -, -, -, hb, -⟩ := B
  unfold o_lst at h
  split at h
  · obtain ⟨L', h1, h2⟩ := Option.map_eq_some_iff.mp h
    cases h2
    intro Q k
    exact lv_lstore hx hb hd I.2.1.has (jx_s2_lt h1) rfl fun ls' h' => k _ _ _ _ _ ⟨I.1, jx_lo.set2 h1 h', I.2.2.1, I.2.2.2.1, I.2.2.2.2.1, (jx_s2_len h1).trans I.2.2.2.2.2⟩
  · cases h
theorem s_astore_n {i : Nat} {n : Fin 4} (hd : decode md.2.1 pc = .ok (.astore_n n, 1)) (hi : (n : Nat) = i) : jx_S X mt md pc (o_ast i 1) := by
  intro p l e R s m args below meth c d B L st M N h H ls locs cells slots I
  obtain ⟨hx, -, -, -, -, -, -, hb, -⟩ := B
  unfold o_ast at h
  split at h
  · obtain ⟨L', h1, h2⟩ := Option.map_eq_some_iff.mp h
    cases h2
    intro Q k
    exact lv_astore_n hx hb hd hi I.2.1.has (jx_s1_lt h1) rfl fun ls' h' => k _ _ _ _ _ ⟨I.1, jx_lo.set1 h1 h', I.2.2.1, I.2.2.2.1, I.2.2.2.2.1, (jx_s1_len h1).trans I.2.2.2.2.2⟩
  · obtain ⟨L', h1, h2⟩ := Option.map_eq_some_iff.mp h
    cases h2
    intro Q k
    exact lv_astore_nN hx hb hd hi I.2.1.has (jx_s1_lt h1) rfl fun ls' h' => k _ _ _ _ _ ⟨I.1, jx_lo.set1 h1 h', I.2.2.1, I.2.2.2.1, I.2.2.2.2.1, (jx_s1_len h1).trans I.2.2.2.2.2⟩
  · cases h
theorem s_astore {i : Nat} (hd : decode md.2.1 pc = .ok (.astore i, 2)) : jx_S X mt md pc (o_ast i 2) := by
  intro p l e R s m args below meth c d B L st M N h H ls locs cells slots I
  obtain ⟨hx, -, -, -, -, -, -, hb, -⟩ := B
  unfold o_ast at h
  split at h
  · obtain ⟨L', h1, h2⟩ := Option.map_eq_some_iff.mp h
    cases h2
    intro Q k
    exact lv_astore hx hb hd I.2.1.has (jx_s1_lt h1) rfl fun ls' h' => k _ _ _ _ _ ⟨I.1, jx_lo.set1 h1 h', I.2.2.1, I.2.2.2.1, I.2.2.2.2.1, (jx_s1_len h1).trans I.2.2.2.2.2⟩
  · obtain ⟨L', h1, h2⟩ := Option.map_eq_some_iff.mp h
    cases h2
    intro Q k
    exact lv_astoreN hx hb hd I.2.1.has (jx_s1_lt h1) rfl fun ls' h' => k _ _ _ _ _ ⟨I.1, jx_lo.set1 h1 h', I.2.2.1, I.2.2.2.1, I.2.2.2.2.1, (jx_s1_len h1).trans I.2.2.2.2.2⟩
  · cases h
theorem s_iinc {i : Nat} {n : Int} {v : Int32} (hd : decode md.2.1 pc = .ok (.iinc i n, 3)) (hv : Int32.ofInt n = v) : jx_S X mt md pc (o_iinc i v) := by
  intro p l e R s m args below meth c d B L st M N h H ls locs cells slots I
  obtain ⟨hx, -, -, -, -, -, -, hb, -⟩ := B
  unfold o_iinc at h
  split at h
  · rename_i x hx0
    obtain ⟨L', h1, h2⟩ := Option.map_eq_some_iff.mp h
    cases h2
    intro Q k
    have hm : (i, Value.int x) ∈ jx_pr X L := jx_pr_mem.mpr ⟨_, hx0, rfl⟩
    obtain ⟨j, hj⟩ := List.getElem?_of_mem hm
    exact lv_iinc hx hb hd I.2.1.has hj (by rw [hv]) (jx_s1_lt h1) rfl fun ls' h' => k _ _ _ _ _ ⟨I.1, jx_lo.set1 h1 h', I.2.2.1, I.2.2.2.1, I.2.2.2.2.1, (jx_s1_len h1).trans I.2.2.2.2.2⟩
  · cases h
theorem s_iadd (hd : decode md.2.1 pc = .ok (.iadd, 1)) : jx_S X mt md pc (o_bin fun x y => x + y) := by
  intro p l e R s m args below meth c d B L st M N h H ls locs cells slots I
  obtain ⟨hx, -, -, -, -, -, -, hb, -⟩ := B
  unfold o_bin at h
  split at h
  · cases h
    intro Q k
    exact lv_iadd hx hb hd (k _ _ _ _ _ I)
  · cases h
theorem s_isub (hd : decode md.2.1 pc = .ok (.isub, 1)) : jx_S X mt md pc (o_bin fun x y => x - y) := by
  intro p l e R s m args below meth c d B L st M N h H ls locs cells slots I
  obtain ⟨hx, -, -, -, -, -, -, hb, -⟩ := B
  unfold o_bin at h
  split at h
  · cases h
    intro Q k
    exact lv_isub hx hb hd (k _ _ _ _ _ I)
  · cases h
theorem s_imul (hd : decode md.2.1 pc = .ok (.imul, 1)) : jx_S X mt md pc (o_bin fun x y => x * y) := by
  intro p l e R s m args below meth c d B L st M N h H ls locs cells slots I
  obtain ⟨hx, -, -, -, -, -, -, hb, -⟩ := B
  unfold o_bin at h
  split at h
  · cases h
    intro Q k
    exact lv_imul hx hb hd (k _ _ _ _ _ I)
  · cases h
theorem s_iand (hd : decode md.2.1 pc = .ok (.iand, 1)) : jx_S X mt md pc (o_bin fun x y => x &&& y) := by
  intro p l e R s m args below meth c d B L st M N h H ls locs cells slots I
  obtain ⟨hx, -, -, -, -, -, -, hb, -⟩ := B
  unfold o_bin at h
  split at h
  · cases h
    intro Q k
    exact lv_iand hx hb hd (k _ _ _ _ _ I)
  · cases h
theorem s_ior (hd : decode md.2.1 pc = .ok (.ior, 1)) : jx_S X mt md pc (o_bin fun x y => x ||| y) := by
  intro p l e R s m args below meth c d B L st M N h H ls locs cells slots I
  obtain ⟨hx, -, -, -, -, -, -, hb, -⟩ := B
  unfold o_bin at h
  split at h
  · cases h
    intro Q k
    exact lv_ior hx hb hd (k _ _ _ _ _ I)
  · cases h
theorem s_ixor (hd : decode md.2.1 pc = .ok (.ixor, 1)) : jx_S X mt md pc (o_bin fun x y => x ^^^ y) := by
  intro p l e R s m args below meth c d B L st M N h H ls locs cells slots I
  obtain ⟨hx, -, -, -, -, -, -, hb, -⟩ := B
  unfold o_bin at h
  split at h
  · cases h
    intro Q k
    exact lv_ixor hx hb hd (k _ _ _ _ _ I)
  · cases h
theorem s_ishl (hd : decode md.2.1 pc = .ok (.ishl, 1)) : jx_S X mt md pc (o_bin fun x y => x <<< (y &&& 31)) := by
  intro p l e R s m args below meth c d B L st M N h H ls locs cells slots I
  obtain ⟨hx, -, -, -, -, -, -, hb, -⟩ := B
  unfold o_bin at h
  split at h
  · cases h
    intro Q k
    exact lv_ishl hx hb hd (k _ _ _ _ _ I)
  · cases h
theorem s_ishr (hd : decode md.2.1 pc = .ok (.ishr, 1)) : jx_S X mt md pc (o_bin fun x y => x >>> (y &&& 31)) := by
  intro p l e R s m args below meth c d B L st M N h H ls locs cells slots I
  obtain ⟨hx, -, -, -, -, -, -, hb, -⟩ := B
  unfold o_bin at h
  split at h
  · cases h
    intro Q k
    exact lv_ishr hx hb hd (k _ _ _ _ _ I)
  · cases h
theorem s_iushr (hd : decode md.2.1 pc = .ok (.iushr, 1)) : jx_S X mt md pc (o_bin fun x y => (x.toUInt32 >>> (y.toUInt32 &&& Int32.toUInt32 31)).toInt32) := by
  intro p l e R s m args below meth c d B L st M N h H ls locs cells slots I
  obtain ⟨hx, -, -, -, -, -, -, hb, -⟩ := B
  unfold o_bin at h
  split at h
  · cases h
    intro Q k
    exact lv_iushr hx hb hd rfl (k _ _ _ _ _ I)
  · cases h
theorem s_ineg (hd : decode md.2.1 pc = .ok (.ineg, 1)) : jx_S X mt md pc (o_un fun x => -x) := by
  intro p l e R s m args below meth c d B L st M N h H ls locs cells slots I
  obtain ⟨hx, -, -, -, -, -, -, hb, -⟩ := B
  unfold o_un at h
  split at h
  · cases h
    intro Q k
    exact lv_ineg hx hb hd (k _ _ _ _ _ I)
  · cases h
theorem s_i2c (hd : decode md.2.1 pc = .ok (.i2c, 1)) : jx_S X mt md pc (o_un fun x => (x.toUInt32 % 65536).toInt32) := by
  intro p l e R s m args below meth c d B L st M N h H ls locs cells slots I
  obtain ⟨hx, -, -, -, -, -, -, hb, -⟩ := B
  unfold o_un at h
  split at h
  · cases h
    intro Q k
    exact lv_i2c hx hb hd rfl (k _ _ _ _ _ I)
  · cases h
theorem s_ladd (hd : decode md.2.1 pc = .ok (.ladd, 1)) : jx_S X mt md pc (o_binl fun x y => x + y) := by
  intro p l e R s m args below meth c d B L st M N h H ls locs cells slots I
  obtain ⟨hx, -, -, -, -, -, -, hb, -⟩ := B
  unfold o_binl at h
  split at h
  · cases h
    intro Q k
    exact lv_ladd hx hb hd (k _ _ _ _ _ I)
  · cases h
theorem s_land (hd : decode md.2.1 pc = .ok (.land, 1)) : jx_S X mt md pc (o_binl fun x y => x &&& y) := by
  intro p l e R s m args below meth c d B L st M N h H ls locs cells slots I
  obtain ⟨hx, -, -, -, -, -, -, hb, -⟩ := B
  unfold o_binl at h
  split at h
  · cases h
    intro Q k
    exact lv_land hx hb hd (k _ _ _ _ _ I)
  · cases h
theorem s_lor (hd : decode md.2.1 pc = .ok (.lor, 1)) : jx_S X mt md pc (o_binl fun x y => x ||| y) := by
  intro p l e R s m args below meth c d B L st M N h H ls locs cells slots I
  obtain ⟨hx, -, -, -, -, -, -, hb, -⟩ := B
  unfold o_binl at h
  split at h
  · cases h
    intro Q k
    exact lv_lor hx hb hd (k _ _ _ _ _ I)
  · cases h
theorem s_lshl (hd : decode md.2.1 pc = .ok (.lshl, 1)) : jx_S X mt md pc (o_shl fun x y => x <<< (y.toInt64 &&& 63)) := by
  intro p l e R s m args below meth c d B L st M N h H ls locs cells slots I
  obtain ⟨hx, -, -, -, -, -, -, hb, -⟩ := B
  unfold o_shl at h
  split at h
  · cases h
    intro Q k
    exact lv_lshl hx hb hd rfl (k _ _ _ _ _ I)
  · cases h
theorem s_lushr (hd : decode md.2.1 pc = .ok (.lushr, 1)) : jx_S X mt md pc (o_shl fun x y => (x.toUInt64 >>> (y.toInt64.toUInt64 &&& Int64.toUInt64 63)).toInt64) := by
  intro p l e R s m args below meth c d B L st M N h H ls locs cells slots I
  obtain ⟨hx, -, -, -, -, -, -, hb, -⟩ := B
  unfold o_shl at h
  split at h
  · cases h
    intro Q k
    exact lv_lushr hx hb hd rfl (k _ _ _ _ _ I)
  · cases h
theorem s_i2l (hd : decode md.2.1 pc = .ok (.i2l, 1)) : jx_S X mt md pc o_i2l := by
  intro p l e R s m args below meth c d B L st M N h H ls locs cells slots I
  obtain ⟨hx, -, -, -, -, -, -, hb, -⟩ := B
  unfold o_i2l at h
  split at h
  · cases h
    intro Q k
    exact lv_i2l hx hb hd rfl (k _ _ _ _ _ I)
  · cases h
theorem s_l2i (hd : decode md.2.1 pc = .ok (.l2i, 1)) : jx_S X mt md pc o_l2i := by
  intro p l e R s m args below meth c d B L st M N h H ls locs cells slots I
  obtain ⟨hx, -, -, -, -, -, -, hb, -⟩ := B
  unfold o_l2i at h
  split at h
  · cases h
    intro Q k
    exact lv_l2i hx hb hd rfl (k _ _ _ _ _ I)
  · cases h
theorem s_lcmp (hd : decode md.2.1 pc = .ok (.lcmp, 1)) : jx_S X mt md pc o_lcmp := by
  intro p l e R s m args below meth c d B L st M N h H ls locs cells slots I
  obtain ⟨hx, -, -, -, -, -, -, hb, -⟩ := B
  unfold o_lcmp at h
  split at h
  · cases h
    intro Q k
    exact W.lcmp hx hb hd (k _ _ _ _ _ I)
  · cases h
theorem s_dup (hd : decode md.2.1 pc = .ok (.dup, 1)) : jx_S X mt md pc o_dup := by
  intro p l e R s m args below meth c d B L st M N h H ls locs cells slots I
  obtain ⟨hx, -, -, -, -, -, -, hb, -⟩ := B
  unfold o_dup at h
  split at h
  · split at h
    · rename_i hv
      cases h
      intro Q k
      exact lv_dup hx hb hd (by rw [jx_v_cat]; exact jx_v1_cat hv) (k _ _ _ _ _ I)
    · cases h
  · cases h
theorem s_pop (hd : decode md.2.1 pc = .ok (.pop, 1)) : jx_S X mt md pc o_pop := by
  intro p l e R s m args below meth c d B L st M N h H ls locs cells slots I
  obtain ⟨hx, -, -, -, -, -, -, hb, -⟩ := B
  unfold o_pop at h
  split at h
  · split at h
    · rename_i hv
      cases h
      intro Q k
      exact lv_pop hx hb hd (by rw [jx_v_cat]; exact jx_v1_cat hv) (k _ _ _ _ _ I)
    · cases h
  · cases h
theorem s_dup_x1 (hd : decode md.2.1 pc = .ok (.dup_x1, 1)) : jx_S X mt md pc o_dup_x1 := by
  intro p l e R s m args below meth c d B L st M N h H ls locs cells slots I
  obtain ⟨hx, -, -, -, -, -, -, hb, -⟩ := B
  unfold o_dup_x1 at h
  split at h
  · split at h
    · rename_i hv
      cases h
      intro Q k
      exact lv_dup_x1 hx hb hd (by rw [jx_v_cat]; exact jx_v1_cat hv.1) (by rw [jx_v_cat]; exact jx_v1_cat hv.2) (k _ _ _ _ _ I)
    · cases h
  · cases h
theorem s_dup2 (hd : decode md.2.1 pc = .ok (.dup2, 1)) : jx_S X mt md pc o_dup2 := by
  intro p l e R s m args below meth c d B L st M N h H ls locs cells slots I
  obtain ⟨hx, -, -, -, -, -, -, hb, -⟩ := B
  unfold o_dup2 at h
  split at h
  · split at h
    · rename_i hv
      cases h
      intro Q k
      exact lv_dup2_11 hx hb hd (by rw [jx_v_cat]; exact jx_v1_cat hv.1) (by rw [jx_v_cat]; exact jx_v1_cat hv.2) (k _ _ _ _ _ I)
    · cases h
  · cases h
theorem s_goto {off : Int} {t : Nat} (hd : decode md.2.1 pc = .ok (.goto off, 3)) (ht : (pc : Int) + off = (t : Int)) : jx_S X mt md pc (o_goto t) := by
  intro p l e R s m args below meth c d B L st M N h H ls locs cells slots I
  obtain ⟨hx, -, -, -, -, -, -, hb, -⟩ := B
  cases h
  intro Q k
  exact lv_goto hx hb hd ht (k _ _ _ _ _ I)
theorem s_ifeq {off : Int} {t : Nat} (hd : decode md.2.1 pc = .ok (.ifCond .eq off, 3)) (ht : (pc : Int) + off = (t : Int)) : jx_S X mt md pc (o_ifeq t) := by
  intro p l e R s m args below meth c d B L st M N h H ls locs cells slots I
  obtain ⟨hx, -, -, -, -, -, -, hb, -⟩ := B
  unfold o_ifeq at h
  split at h
  · cases h
    intro Q k
    refine lv_if_eq hx hb hd ht (fun q => ?_) (fun q => ?_)
    · have k2 := k _ _ _ _ _ I
      rw [if_pos q] at k2
      exact k2
    · have k2 := k _ _ _ _ _ I
      rw [if_neg q] at k2
      exact k2
  · cases h
theorem s_ifne {off : Int} {t : Nat} (hd : decode md.2.1 pc = .ok (.ifCond .ne off, 3)) (ht : (pc : Int) + off = (t : Int)) : jx_S X mt md pc (o_ifne t) := by
  intro p l e R s m args below meth c d B L st M N h H ls locs cells slots I
  obtain ⟨hx, -, -, -, -, -, -, hb, -⟩ := B
  unfold o_ifne at h
  split at h
  · cases h
    intro Q k
    refine lv_if_ne hx hb hd ht (fun q => ?_) (fun q => ?_)
    · have k2 := k _ _ _ _ _ I
      rw [if_neg q] at k2
      exact k2
    · have k2 := k _ _ _ _ _ I
      rw [if_pos q] at k2
      exact k2
  · cases h
theorem s_iflt {off : Int} {t : Nat} (hd : decode md.2.1 pc = .ok (.ifCond .lt off, 3)) (ht : (pc : Int) + off = (t : Int)) : jx_S X mt md pc (o_iflt t) := by
  intro p l e R s m args below meth c d B L st M N h H ls locs cells slots I
  obtain ⟨hx, -, -, -, -, -, -, hb, -⟩ := B
  unfold o_iflt at h
  split at h
  · cases h
    intro Q k
    refine lv_if_lt hx hb hd ht (fun q => ?_) (fun q => ?_)
    · have k2 := k _ _ _ _ _ I
      rw [if_pos q] at k2
      exact k2
    · have k2 := k _ _ _ _ _ I
      rw [if_neg q] at k2
      exact k2
  · cases h
theorem s_ifge {off : Int} {t : Nat} (hd : decode md.2.1 pc = .ok (.ifCond .ge off, 3)) (ht : (pc : Int) + off = (t : Int)) : jx_S X mt md pc (o_ifge t) := by
  intro p l e R s m args below meth c d B L st M N h H ls locs cells slots I
  obtain ⟨hx, -, -, -, -, -, -, hb, -⟩ := B
  unfold o_ifge at h
  split at h
  · cases h
    intro Q k
    refine lv_if_ge hx hb hd ht (fun q => ?_) (fun q => ?_)
    · have k2 := k _ _ _ _ _ I
      rw [if_neg (k2_nlt q)] at k2
      exact k2
    · have k2 := k _ _ _ _ _ I
      rw [if_pos (k2_lt q)] at k2
      exact k2
  · cases h
theorem s_ifgt {off : Int} {t : Nat} (hd : decode md.2.1 pc = .ok (.ifCond .gt off, 3)) (ht : (pc : Int) + off = (t : Int)) : jx_S X mt md pc (o_ifgt t) := by
  intro p l e R s m args below meth c d B L st M N h H ls locs cells slots I
  obtain ⟨hx, -, -, -, -, -, -, hb, -⟩ := B
  unfold o_ifgt at h
  split at h
  · cases h
    intro Q k
    refine lv_if_gt hx hb hd ht (fun q => ?_) (fun q => ?_)
    · have k2 := k _ _ _ _ _ I
      rw [if_pos q] at k2
      exact k2
    · have k2 := k _ _ _ _ _ I
      rw [if_neg q] at k2
      exact k2
  · cases h
theorem s_ifle {off : Int} {t : Nat} (hd : decode md.2.1 pc = .ok (.ifCond .le off, 3)) (ht : (pc : Int) + off = (t : Int)) : jx_S X mt md pc (o_ifle t) := by
  intro p l e R s m args below meth c d B L st M N h H ls locs cells slots I
  obtain ⟨hx, -, -, -, -, -, -, hb, -⟩ := B
  unfold o_ifle at h
  split at h
  · cases h
    intro Q k
    refine lv_if_le hx hb hd ht (fun q => ?_) (fun q => ?_)
    · have k2 := k _ _ _ _ _ I
      rw [if_neg (k2_nlt q)] at k2
      exact k2
    · have k2 := k _ _ _ _ _ I
      rw [if_pos (k2_lt q)] at k2
      exact k2
  · cases h
theorem s_ieq {off : Int} {t : Nat} (hd : decode md.2.1 pc = .ok (.if_icmp .eq off, 3)) (ht : (pc : Int) + off = (t : Int)) : jx_S X mt md pc (o_ieq t) := by
  intro p l e R s m args below meth c d B L st M N h H ls locs cells slots I
  obtain ⟨hx, -, -, -, -, -, -, hb, -⟩ := B
  unfold o_ieq at h
  split at h
  · cases h
    intro Q k
    refine lv_icmp_eq hx hb hd ht (fun q => ?_) (fun q => ?_)
    · have k2 := k _ _ _ _ _ I
      rw [if_pos q] at k2
      exact k2
    · have k2 := k _ _ _ _ _ I
      rw [if_neg q] at k2
      exact k2
  · cases h
theorem s_ine {off : Int} {t : Nat} (hd : decode md.2.1 pc = .ok (.if_icmp .ne off, 3)) (ht : (pc : Int) + off = (t : Int)) : jx_S X mt md pc (o_ine t) := by
  intro p l e R s m args below meth c d B L st M N h H ls locs cells slots I
  obtain ⟨hx, -, -, -, -, -, -, hb, -⟩ := B
  unfold o_ine at h
  split at h
  · cases h
    intro Q k
    refine lv_icmp_ne hx hb hd ht (fun q => ?_) (fun q => ?_)
    · have k2 := k _ _ _ _ _ I
      rw [if_neg q] at k2
      exact k2
    · have k2 := k _ _ _ _ _ I
      rw [if_pos q] at k2
      exact k2
  · cases h
theorem s_ilt {off : Int} {t : Nat} (hd : decode md.2.1 pc = .ok (.if_icmp .lt off, 3)) (ht : (pc : Int) + off = (t : Int)) : jx_S X mt md pc (o_ilt t) := by
  intro p l e R s m args below meth c d B L st M N h H ls locs cells slots I
  obtain ⟨hx, -, -, -, -, -, -, hb, -⟩ := B
  unfold o_ilt at h
  split at h
  · cases h
    intro Q k
    refine lv_icmp_lt hx hb hd ht (fun q => ?_) (fun q => ?_)
    · have k2 := k _ _ _ _ _ I
      rw [if_pos q] at k2
      exact k2
    · have k2 := k _ _ _ _ _ I
      rw [if_neg q] at k2
      exact k2
  · cases h
theorem s_ige {off : Int} {t : Nat} (hd : decode md.2.1 pc = .ok (.if_icmp .ge off, 3)) (ht : (pc : Int) + off = (t : Int)) : jx_S X mt md pc (o_ige t) := by
  intro p l e R s m args below meth c d B L st M N h H ls locs cells slots I
  obtain ⟨hx, -, -, -, -, -, -, hb, -⟩ := B
  unfold o_ige at h
  split at h
  · cases h
    intro Q k
    refine lv_icmp_ge hx hb hd ht (fun q => ?_) (fun q => ?_)
    · have k2 := k _ _ _ _ _ I
      rw [if_neg (k2_nlt q)] at k2
      exact k2
    · have k2 := k _ _ _ _ _ I
      rw [if_pos (k2_lt q)] at k2
      exact k2
  · cases h
theorem s_igt {off : Int} {t : Nat} (hd : decode md.2.1 pc = .ok (.if_icmp .gt off, 3)) (ht : (pc : Int) + off = (t : Int)) : jx_S X mt md pc (o_igt t) := by
  intro p l e R s m args below meth c d B L st M N h H ls locs cells slots I
  obtain ⟨hx, -, -, -, -, -, -, hb, -⟩ := B
  unfold o_igt at h
  split at h
  · cases h
    intro Q k
    refine lv_icmp_gt hx hb hd ht (fun q => ?_) (fun q => ?_)
    · have k2 := k _ _ _ _ _ I
      rw [if_pos q] at k2
      exact k2
    · have k2 := k _ _ _ _ _ I
      rw [if_neg q] at k2
      exact k2
  · cases h
theorem s_ile {off : Int} {t : Nat} (hd : decode md.2.1 pc = .ok (.if_icmp .le off, 3)) (ht : (pc : Int) + off = (t : Int)) : jx_S X mt md pc (o_ile t) := by
  intro p l e R s m args below meth c d B L st M N h H ls locs cells slots I
  obtain ⟨hx, -, -, -, -, -, -, hb, -⟩ := B
  unfold o_ile at h
  split at h
  · cases h
    intro Q k
    refine lv_icmp_le hx hb hd ht (fun q => ?_) (fun q => ?_)
    · have k2 := k _ _ _ _ _ I
      rw [if_neg (k2_nlt q)] at k2
      exact k2
    · have k2 := k _ _ _ _ _ I
      rw [if_pos (k2_lt q)] at k2
      exact k2
  · cases h
theorem s_ifnull {off : Int} {t : Nat} (hd : decode md.2.1 pc = .ok (.ifnull off, 3)) (ht : (pc : Int) + off = (t : Int)) : jx_S X mt md pc (o_ifnull t) := by
  intro p l e R s m args below meth c d B L st M N h H ls locs cells slots I
  obtain ⟨hx, -, -, -, -, -, -, hb, -⟩ := B
  unfold o_ifnull at h
  split at h
  · cases h
    intro Q k
    exact lv_ifnullN hx hb hd ht (k _ _ _ _ _ I)
  · cases h
    intro Q k
    exact lv_ifnull hx hb hd (k _ _ _ _ _ I)
  · cases h
theorem s_ifnonnull {off : Int} {t : Nat} (hd : decode md.2.1 pc = .ok (.ifnonnull off, 3)) (ht : (pc : Int) + off = (t : Int)) : jx_S X mt md pc (o_ifnonnull t) := by
  intro p l e R s m args below meth c d B L st M N h H ls locs cells slots I
  obtain ⟨hx, -, -, -, -, -, -, hb, -⟩ := B
  unfold o_ifnonnull at h
  split at h
  · cases h
    intro Q k
    exact lv_ifnonnullN hx hb hd (k _ _ _ _ _ I)
  · cases h
    intro Q k
    exact lv_ifnonnull hx hb hd ht (k _ _ _ _ _ I)
  · cases h
end JO
