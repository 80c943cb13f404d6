theorem aw_iconst {X : CX} {own : String} {bytes : ByteArray} {ret : Option FieldType} {fr lo mc ms n1 : Nat} {post : Option Value → HP → Prop} {n k sl pc : Nat} {h : HP} {L : List (Option Value)} {st : List Value} (hX : Cx X own bytes ret fr lo mc ms n1 post) {z : Int} (v : Int32) (hdg : decode bytes pc = .ok (.iconst z, 1)) (hv : Int32.ofInt z = v) (kk : AW X n h k sl (pc + 1) L (.int v :: st)) : AW X n h k sl pc L st := by
  obtain ⟨p, l, e, R, s, m, args, below, meth, c, Q, E, nL⟩ := X
  obtain ⟨hx, hb, hml, hown, hts, hK, hlk, hr, hR, hQ⟩ := hX
  intro H locs ls hW hS hz hl
  exact lv_iconst hx hb hdg hv (kk H locs ls hW hS hz hl)

theorem aw_bipush {X : CX} {own : String} {bytes : ByteArray} {ret : Option FieldType} {fr lo mc ms n1 : Nat} {post : Option Value → HP → Prop} {n k sl pc : Nat} {h : HP} {L : List (Option Value)} {st : List Value} (hX : Cx X own bytes ret fr lo mc ms n1 post) {z : Int} (v : Int32) (hdg : decode bytes pc = .ok (.bipush z, 2)) (hv : (Int8.ofInt z).toInt32 = v) (kk : AW X n h k sl (pc + 2) L (.int v :: st)) : AW X n h k sl pc L st := by
  obtain ⟨p, l, e, R, s, m, args, below, meth, c, Q, E, nL⟩ := X
  obtain ⟨hx, hb, hml, hown, hts, hK, hlk, hr, hR, hQ⟩ := hX
  intro H locs ls hW hS hz hl
  exact lv_bipush hx hb hdg hv (kk H locs ls hW hS hz hl)

theorem aw_sipush {X : CX} {own : String} {bytes : ByteArray} {ret : Option FieldType} {fr lo mc ms n1 : Nat} {post : Option Value → HP → Prop} {n k sl pc : Nat} {h : HP} {L : List (Option Value)} {st : List Value} (hX : Cx X own bytes ret fr lo mc ms n1 post) {z : Int} (v : Int32) (hdg : decode bytes pc = .ok (.sipush z, 3)) (hv : (Int16.ofInt z).toInt32 = v) (kk : AW X n h k sl (pc + 3) L (.int v :: st)) : AW X n h k sl pc L st := by
  obtain ⟨p, l, e, R, s, m, args, below, meth, c, Q, E, nL⟩ := X
  obtain ⟨hx, hb, hml, hown, hts, hK, hlk, hr, hR, hQ⟩ := hX
  intro H locs ls hW hS hz hl
  exact lv_sipush hx hb hdg hv (kk H locs ls hW hS hz hl)

theorem aw_iload_n {X : CX} {own : String} {bytes : ByteArray} {ret : Option FieldType} {fr lo mc ms n1 : Nat} {post : Option Value → HP → Prop} {n k sl pc : Nat} {h : HP} {L : List (Option Value)} {st : List Value} (hX : Cx X own bytes ret fr lo mc ms n1 post) {i : Fin 4} {x : Int32} (hdg : decode bytes pc = .ok (.iload_n i, 1)) (hv : L[(i : Nat)]? = some (some (.int x))) (kk : AW X n h k sl (pc + 1) L (.int x :: st)) : AW X n h k sl pc L st := by
  obtain ⟨p, l, e, R, s, m, args, below, meth, c, Q, E, nL⟩ := X
  obtain ⟨hx, hb, hml, hown, hts, hK, hlk, hr, hR, hQ⟩ := hX
  intro H locs ls hW hS hz hl
  exact lv_iload_n hx hb hdg rfl (hl.2.2.2 _ _ hv).1 (kk H locs ls hW hS hz hl)

theorem aw_iload {X : CX} {own : String} {bytes : ByteArray} {ret : Option FieldType} {fr lo mc ms n1 : Nat} {post : Option Value → HP → Prop} {n k sl pc : Nat} {h : HP} {L : List (Option Value)} {st : List Value} (hX : Cx X own bytes ret fr lo mc ms n1 post) {i : Nat} {x : Int32} (hdg : decode bytes pc = .ok (.iload i, 2)) (hv : L[i]? = some (some (.int x))) (kk : AW X n h k sl (pc + 2) L (.int x :: st)) : AW X n h k sl pc L st := by
  obtain ⟨p, l, e, R, s, m, args, below, meth, c, Q, E, nL⟩ := X
  obtain ⟨hx, hb, hml, hown, hts, hK, hlk, hr, hR, hQ⟩ := hX
  intro H locs ls hW hS hz hl
  exact lv_iload hx hb hdg (hl.2.2.2 _ _ hv).1 (kk H locs ls hW hS hz hl)

theorem aw_aload_n {X : CX} {own : String} {bytes : ByteArray} {ret : Option FieldType} {fr lo mc ms n1 : Nat} {post : Option Value → HP → Prop} {n k sl pc : Nat} {h : HP} {L : List (Option Value)} {st : List Value} (hX : Cx X own bytes ret fr lo mc ms n1 post) {i : Fin 4} {x : Nat} (hdg : decode bytes pc = .ok (.aload_n i, 1)) (hv : L[(i : Nat)]? = some (some (.ref x))) (kk : AW X n h k sl (pc + 1) L (.ref x :: st)) : AW X n h k sl pc L st := by
  obtain ⟨p, l, e, R, s, m, args, below, meth, c, Q, E, nL⟩ := X
  obtain ⟨hx, hb, hml, hown, hts, hK, hlk, hr, hR, hQ⟩ := hX
  intro H locs ls hW hS hz hl
  exact lv_aload_n hx hb hdg rfl (hl.2.2.2 _ _ hv).1 (kk H locs ls hW hS hz hl)

theorem aw_aload {X : CX} {own : String} {bytes : ByteArray} {ret : Option FieldType} {fr lo mc ms n1 : Nat} {post : Option Value → HP → Prop} {n k sl pc : Nat} {h : HP} {L : List (Option Value)} {st : List Value} (hX : Cx X own bytes ret fr lo mc ms n1 post) {i : Nat} {x : Nat} (hdg : decode bytes pc = .ok (.aload i, 2)) (hv : L[i]? = some (some (.ref x))) (kk : AW X n h k sl (pc + 2) L (.ref x :: st)) : AW X n h k sl pc L st := by
  obtain ⟨p, l, e, R, s, m, args, below, meth, c, Q, E, nL⟩ := X
  obtain ⟨hx, hb, hml, hown, hts, hK, hlk, hr, hR, hQ⟩ := hX
  intro H locs ls hW hS hz hl
  exact lv_aload hx hb hdg (hl.2.2.2 _ _ hv).1 (kk H locs ls hW hS hz hl)

theorem aw_istore_n {X : CX} {own : String} {bytes : ByteArray} {ret : Option FieldType} {fr lo mc ms n1 : Nat} {post : Option Value → HP → Prop} {n k sl pc : Nat} {h : HP} {L : List (Option Value)} {st : List Value} (hX : Cx X own bytes ret fr lo mc ms n1 post) {i : Fin 4} {x : Int32} (hdg : decode bytes pc = .ok (.istore_n i, 1)) (hi : (i : Nat) < L.length) (kk : AW X n h k sl (pc + 1) (L.set (i : Nat) (some (.int x))) st) : AW X n h k sl pc L (.int x :: st) := by
  obtain ⟨p, l, e, R, s, m, args, below, meth, c, Q, E, nL⟩ := X
  obtain ⟨hx, hb, hml, hown, hts, hK, hlk, hr, hR, hQ⟩ := hX
  intro H locs ls hW hS hz hl
  exact lv_istore_n hx hb hdg rfl hl.has (by rw [← hl.2.2.1]; exact hi) rfl (fun ls' h' => kk H locs ls' hW hS hz (lvr.put hl hi rfl h'))

theorem aw_istore {X : CX} {own : String} {bytes : ByteArray} {ret : Option FieldType} {fr lo mc ms n1 : Nat} {post : Option Value → HP → Prop} {n k sl pc : Nat} {h : HP} {L : List (Option Value)} {st : List Value} (hX : Cx X own bytes ret fr lo mc ms n1 post) {i : Nat} {x : Int32} (hdg : decode bytes pc = .ok (.istore i, 2)) (hi : i < L.length) (kk : AW X n h k sl (pc + 2) (L.set i (some (.int x))) st) : AW X n h k sl pc L (.int x :: st) := by
  obtain ⟨p, l, e, R, s, m, args, below, meth, c, Q, E, nL⟩ := X
  obtain ⟨hx, hb, hml, hown, hts, hK, hlk, hr, hR, hQ⟩ := hX
  intro H locs ls hW hS hz hl
  exact lv_istore hx hb hdg hl.has (by rw [← hl.2.2.1]; exact hi) rfl (fun ls' h' => kk H locs ls' hW hS hz (lvr.put hl hi rfl h'))

theorem aw_astore_n {X : CX} {own : String} {bytes : ByteArray} {ret : Option FieldType} {fr lo mc ms n1 : Nat} {post : Option Value → HP → Prop} {n k sl pc : Nat} {h : HP} {L : List (Option Value)} {st : List Value} (hX : Cx X own bytes ret fr lo mc ms n1 post) {i : Fin 4} {x : Nat} (hdg : decode bytes pc = .ok (.astore_n i, 1)) (hi : (i : Nat) < L.length) (kk : AW X n h k sl (pc + 1) (L.set (i : Nat) (some (.ref x))) st) : AW X n h k sl pc L (.ref x :: st) := by
  obtain ⟨p, l, e, R, s, m, args, below, meth, c, Q, E, nL⟩ := X
  obtain ⟨hx, hb, hml, hown, hts, hK, hlk, hr, hR, hQ⟩ := hX
  intro H locs ls hW hS hz hl
  exact lv_astore_n hx hb hdg rfl hl.has (by rw [← hl.2.2.1]; exact hi) rfl (fun ls' h' => kk H locs ls' hW hS hz (lvr.put hl hi rfl h'))

theorem aw_astore {X : CX} {own : String} {bytes : ByteArray} {ret : Option FieldType} {fr lo mc ms n1 : Nat} {post : Option Value → HP → Prop} {n k sl pc : Nat} {h : HP} {L : List (Option Value)} {st : List Value} (hX : Cx X own bytes ret fr lo mc ms n1 post) {i : Nat} {x : Nat} (hdg : decode bytes pc = .ok (.astore i, 2)) (hi : i < L.length) (kk : AW X n h k sl (pc + 2) (L.set i (some (.ref x))) st) : AW X n h k sl pc L (.ref x :: st) := by
  obtain ⟨p, l, e, R, s, m, args, below, meth, c, Q, E, nL⟩ := X
  obtain ⟨hx, hb, hml, hown, hts, hK, hlk, hr, hR, hQ⟩ := hX
  intro H locs ls hW hS hz hl
  exact lv_astore hx hb hdg hl.has (by rw [← hl.2.2.1]; exact hi) rfl (fun ls' h' => kk H locs ls' hW hS hz (lvr.put hl hi rfl h'))

theorem aw_iinc {X : CX} {own : String} {bytes : ByteArray} {ret : Option FieldType} {fr lo mc ms n1 : Nat} {post : Option Value → HP → Prop} {n k sl pc : Nat} {h : HP} {L : List (Option Value)} {st : List Value} (hX : Cx X own bytes ret fr lo mc ms n1 post) {i : Nat} {z : Int} {x : Int32} (v : Int32) (hdg : decode bytes pc = .ok (.iinc i z, 3)) (hv : L[i]? = some (some (.int x))) (hz2 : x + Int32.ofInt z = v) (kk : AW X n h k sl (pc + 3) (L.set i (some (.int v))) st) : AW X n h k sl pc L st := by
  obtain ⟨p, l, e, R, s, m, args, below, meth, c, Q, E, nL⟩ := X
  obtain ⟨hx, hb, hml, hown, hts, hK, hlk, hr, hR, hQ⟩ := hX
  intro H locs ls hW hS hz hl
  have hi : i < L.length := (List.getElem?_eq_some_iff.mp hv).1
  obtain ⟨q, hq⟩ := List.getElem?_of_mem (mem_asl (E := E) hv)
  exact lv_iinc hx hb hdg hl.has hq hz2 (by rw [← hl.2.2.1]; exact hi) rfl (fun ls' h' => kk H locs ls' hW hS hz (lvr.put hl hi rfl h'))

theorem aw_iadd {X : CX} {own : String} {bytes : ByteArray} {ret : Option FieldType} {fr lo mc ms n1 : Nat} {post : Option Value → HP → Prop} {n k sl pc : Nat} {h : HP} {L : List (Option Value)} {st : List Value} (hX : Cx X own bytes ret fr lo mc ms n1 post) {x y : Int32} (hdg : decode bytes pc = .ok (.iadd, 1)) (kk : AW X n h k sl (pc + 1) L (.int (x + y) :: st)) : AW X n h k sl pc L (.int y :: .int x :: st) := by
  obtain ⟨p, l, e, R, s, m, args, below, meth, c, Q, E, nL⟩ := X
  obtain ⟨hx, hb, hml, hown, hts, hK, hlk, hr, hR, hQ⟩ := hX
  intro H locs ls hW hS hz hl
  exact lv_iadd hx hb hdg (kk H locs ls hW hS hz hl)

theorem aw_isub {X : CX} {own : String} {bytes : ByteArray} {ret : Option FieldType} {fr lo mc ms n1 : Nat} {post : Option Value → HP → Prop} {n k sl pc : Nat} {h : HP} {L : List (Option Value)} {st : List Value} (hX : Cx X own bytes ret fr lo mc ms n1 post) {x y : Int32} (hdg : decode bytes pc = .ok (.isub, 1)) (kk : AW X n h k sl (pc + 1) L (.int (x - y) :: st)) : AW X n h k sl pc L (.int y :: .int x :: st) := by
  obtain ⟨p, l, e, R, s, m, args, below, meth, c, Q, E, nL⟩ := X
  obtain ⟨hx, hb, hml, hown, hts, hK, hlk, hr, hR, hQ⟩ := hX
  intro H locs ls hW hS hz hl
  exact lv_isub hx hb hdg (kk H locs ls hW hS hz hl)

theorem aw_imul {X : CX} {own : String} {bytes : ByteArray} {ret : Option FieldType} {fr lo mc ms n1 : Nat} {post : Option Value → HP → Prop} {n k sl pc : Nat} {h : HP} {L : List (Option Value)} {st : List Value} (hX : Cx X own bytes ret fr lo mc ms n1 post) {x y : Int32} (hdg : decode bytes pc = .ok (.imul, 1)) (kk : AW X n h k sl (pc + 1) L (.int (x * y) :: st)) : AW X n h k sl pc L (.int y :: .int x :: st) := by
  obtain ⟨p, l, e, R, s, m, args, below, meth, c, Q, E, nL⟩ := X
  obtain ⟨hx, hb, hml, hown, hts, hK, hlk, hr, hR, hQ⟩ := hX
  intro H locs ls hW hS hz hl
  exact lv_imul hx hb hdg (kk H locs ls hW hS hz hl)

theorem aw_iand {X : CX} {own : String} {bytes : ByteArray} {ret : Option FieldType} {fr lo mc ms n1 : Nat} {post : Option Value → HP → Prop} {n k sl pc : Nat} {h : HP} {L : List (Option Value)} {st : List Value} (hX : Cx X own bytes ret fr lo mc ms n1 post) {x y : Int32} (hdg : decode bytes pc = .ok (.iand, 1)) (kk : AW X n h k sl (pc + 1) L (.int (x &&& y) :: st)) : AW X n h k sl pc L (.int y :: .int x :: st) := by
  obtain ⟨p, l, e, R, s, m, args, below, meth, c, Q, E, nL⟩ := X
  obtain ⟨hx, hb, hml, hown, hts, hK, hlk, hr, hR, hQ⟩ := hX
  intro H locs ls hW hS hz hl
  exact lv_iand hx hb hdg (kk H locs ls hW hS hz hl)

theorem aw_ior {X : CX} {own : String} {bytes : ByteArray} {ret : Option FieldType} {fr lo mc ms n1 : Nat} {post : Option Value → HP → Prop} {n k sl pc : Nat} {h : HP} {L : List (Option Value)} {st : List Value} (hX : Cx X own bytes ret fr lo mc ms n1 post) {x y : Int32} (hdg : decode bytes pc = .ok (.ior, 1)) (kk : AW X n h k sl (pc + 1) L (.int (x ||| y) :: st)) : AW X n h k sl pc L (.int y :: .int x :: st) := by
  obtain ⟨p, l, e, R, s, m, args, below, meth, c, Q, E, nL⟩ := X
  obtain ⟨hx, hb, hml, hown, hts, hK, hlk, hr, hR, hQ⟩ := hX
  intro H locs ls hW hS hz hl
  exact lv_ior hx hb hdg (kk H locs ls hW hS hz hl)

theorem aw_ixor {X : CX} {own : String} {bytes : ByteArray} {ret : Option FieldType} {fr lo mc ms n1 : Nat} {post : Option Value → HP → Prop} {n k sl pc : Nat} {h : HP} {L : List (Option Value)} {st : List Value} (hX : Cx X own bytes ret fr lo mc ms n1 post) {x y : Int32} (hdg : decode bytes pc = .ok (.ixor, 1)) (kk : AW X n h k sl (pc + 1) L (.int (x ^^^ y) :: st)) : AW X n h k sl pc L (.int y :: .int x :: st) := by
  obtain ⟨p, l, e, R, s, m, args, below, meth, c, Q, E, nL⟩ := X
  obtain ⟨hx, hb, hml, hown, hts, hK, hlk, hr, hR, hQ⟩ := hX
  intro H locs ls hW hS hz hl
  exact lv_ixor hx hb hdg (kk H locs ls hW hS hz hl)

theorem aw_ishl {X : CX} {own : String} {bytes : ByteArray} {ret : Option FieldType} {fr lo mc ms n1 : Nat} {post : Option Value → HP → Prop} {n k sl pc : Nat} {h : HP} {L : List (Option Value)} {st : List Value} (hX : Cx X own bytes ret fr lo mc ms n1 post) {x y : Int32} (hdg : decode bytes pc = .ok (.ishl, 1)) (kk : AW X n h k sl (pc + 1) L (.int (x <<< (y &&& 31)) :: st)) : AW X n h k sl pc L (.int y :: .int x :: st) := by
  obtain ⟨p, l, e, R, s, m, args, below, meth, c, Q, E, nL⟩ := X
  obtain ⟨hx, hb, hml, hown, hts, hK, hlk, hr, hR, hQ⟩ := hX
  intro H locs ls hW hS hz hl
  exact lv_ishl hx hb hdg (kk H locs ls hW hS hz hl)

theorem aw_ishr {X : CX} {own : String} {bytes : ByteArray} {ret : Option FieldType} {fr lo mc ms n1 : Nat} {post : Option Value → HP → Prop} {n k sl pc : Nat} {h : HP} {L : List (Option Value)} {st : List Value} (hX : Cx X own bytes ret fr lo mc ms n1 post) {x y : Int32} (hdg : decode bytes pc = .ok (.ishr, 1)) (kk : AW X n h k sl (pc + 1) L (.int (x >>> (y &&& 31)) :: st)) : AW X n h k sl pc L (.int y :: .int x :: st) := by
  obtain ⟨p, l, e, R, s, m, args, below, meth, c, Q, E, nL⟩ := X
  obtain ⟨hx, hb, hml, hown, hts, hK, hlk, hr, hR, hQ⟩ := hX
  intro H locs ls hW hS hz hl
  exact lv_ishr hx hb hdg (kk H locs ls hW hS hz hl)

theorem aw_idiv {X : CX} {own : String} {bytes : ByteArray} {ret : Option FieldType} {fr lo mc ms n1 : Nat} {post : Option Value → HP → Prop} {n k sl pc : Nat} {h : HP} {L : List (Option Value)} {st : List Value} (hX : Cx X own bytes ret fr lo mc ms n1 post) {x y : Int32} (hdg : decode bytes pc = .ok (.idiv, 1)) (hne : ¬ y = 0) (kk : AW X n h k sl (pc + 1) L (.int (x / y) :: st)) : AW X n h k sl pc L (.int y :: .int x :: st) := by
  obtain ⟨p, l, e, R, s, m, args, below, meth, c, Q, E, nL⟩ := X
  obtain ⟨hx, hb, hml, hown, hts, hK, hlk, hr, hR, hQ⟩ := hX
  intro H locs ls hW hS hz hl
  exact lv_idiv hx hb hdg hne (kk H locs ls hW hS hz hl)

theorem aw_irem {X : CX} {own : String} {bytes : ByteArray} {ret : Option FieldType} {fr lo mc ms n1 : Nat} {post : Option Value → HP → Prop} {n k sl pc : Nat} {h : HP} {L : List (Option Value)} {st : List Value} (hX : Cx X own bytes ret fr lo mc ms n1 post) {x y : Int32} (hdg : decode bytes pc = .ok (.irem, 1)) (hne : ¬ y = 0) (kk : AW X n h k sl (pc + 1) L (.int (x - x / y * y) :: st)) : AW X n h k sl pc L (.int y :: .int x :: st) := by
  obtain ⟨p, l, e, R, s, m, args, below, meth, c, Q, E, nL⟩ := X
  obtain ⟨hx, hb, hml, hown, hts, hK, hlk, hr, hR, hQ⟩ := hX
  intro H locs ls hW hS hz hl
  exact lv_irem hx hb hdg hne (kk H locs ls hW hS hz hl)

theorem aw_iushr {X : CX} {own : String} {bytes : ByteArray} {ret : Option FieldType} {fr lo mc ms n1 : Nat} {post : Option Value → HP → Prop} {n k sl pc : Nat} {h : HP} {L : List (Option Value)} {st : List Value} (hX : Cx X own bytes ret fr lo mc ms n1 post) {x y : Int32} (hdg : decode bytes pc = .ok (.iushr, 1)) (kk : AW X n h k sl (pc + 1) L (.int ((x.toUInt32 >>> (y.toUInt32 &&& Int32.toUInt32 31)).toInt32) :: st)) : AW X n h k sl pc L (.int y :: .int x :: st) := by
  obtain ⟨p, l, e, R, s, m, args, below, meth, c, Q, E, nL⟩ := X
  obtain ⟨hx, hb, hml, hown, hts, hK, hlk, hr, hR, hQ⟩ := hX
  intro H locs ls hW hS hz hl
  exact lv_iushr hx hb hdg rfl (kk H locs ls hW hS hz hl)

theorem aw_ineg {X : CX} {own : String} {bytes : ByteArray} {ret : Option FieldType} {fr lo mc ms n1 : Nat} {post : Option Value → HP → Prop} {n k sl pc : Nat} {h : HP} {L : List (Option Value)} {st : List Value} (hX : Cx X own bytes ret fr lo mc ms n1 post) {x : Int32} (hdg : decode bytes pc = .ok (.ineg, 1)) (kk : AW X n h k sl (pc + 1) L (.int (-x) :: st)) : AW X n h k sl pc L (.int x :: st) := by
  obtain ⟨p, l, e, R, s, m, args, below, meth, c, Q, E, nL⟩ := X
  obtain ⟨hx, hb, hml, hown, hts, hK, hlk, hr, hR, hQ⟩ := hX
  intro H locs ls hW hS hz hl
  exact lv_ineg hx hb hdg (kk H locs ls hW hS hz hl)

theorem aw_lconst {X : CX} {own : String} {bytes : ByteArray} {ret : Option FieldType} {fr lo mc ms n1 : Nat} {post : Option Value → HP → Prop} {n k sl pc : Nat} {h : HP} {L : List (Option Value)} {st : List Value} (hX : Cx X own bytes ret fr lo mc ms n1 post) {z : Fin 2} (v : Int64) (hdg : decode bytes pc = .ok (.lconst z, 1)) (hv : Int64.ofNat (z : Nat) = v) (kk : AW X n h k sl (pc + 1) L (.long v :: st)) : AW X n h k sl pc L st := by
  obtain ⟨p, l, e, R, s, m, args, below, meth, c, Q, E, nL⟩ := X
  obtain ⟨hx, hb, hml, hown, hts, hK, hlk, hr, hR, hQ⟩ := hX
  intro H locs ls hW hS hz hl
  exact lv_lconst hx hb hdg hv (kk H locs ls hW hS hz hl)

theorem aw_ladd {X : CX} {own : String} {bytes : ByteArray} {ret : Option FieldType} {fr lo mc ms n1 : Nat} {post : Option Value → HP → Prop} {n k sl pc : Nat} {h : HP} {L : List (Option Value)} {st : List Value} (hX : Cx X own bytes ret fr lo mc ms n1 post) {x y : Int64} (hdg : decode bytes pc = .ok (.ladd, 1)) (kk : AW X n h k sl (pc + 1) L (.long (x + y) :: st)) : AW X n h k sl pc L (.long y :: .long x :: st) := by
  obtain ⟨p, l, e, R, s, m, args, below, meth, c, Q, E, nL⟩ := X
  obtain ⟨hx, hb, hml, hown, hts, hK, hlk, hr, hR, hQ⟩ := hX
  intro H locs ls hW hS hz hl
  exact lv_ladd hx hb hdg (kk H locs ls hW hS hz hl)

theorem aw_land {X : CX} {own : String} {bytes : ByteArray} {ret : Option FieldType} {fr lo mc ms n1 : Nat} {post : Option Value → HP → Prop} {n k sl pc : Nat} {h : HP} {L : List (Option Value)} {st : List Value} (hX : Cx X own bytes ret fr lo mc ms n1 post) {x y : Int64} (hdg : decode bytes pc = .ok (.land, 1)) (kk : AW X n h k sl (pc + 1) L (.long (x &&& y) :: st)) : AW X n h k sl pc L (.long y :: .long x :: st) := by
  obtain ⟨p, l, e, R, s, m, args, below, meth, c, Q, E, nL⟩ := X
  obtain ⟨hx, hb, hml, hown, hts, hK, hlk, hr, hR, hQ⟩ := hX
  intro H locs ls hW hS hz hl
  exact lv_land hx hb hdg (kk H locs ls hW hS hz hl)

theorem aw_lxor {X : CX} {own : String} {bytes : ByteArray} {ret : Option FieldType} {fr lo mc ms n1 : Nat} {post : Option Value → HP → Prop} {n k sl pc : Nat} {h : HP} {L : List (Option Value)} {st : List Value} (hX : Cx X own bytes ret fr lo mc ms n1 post) {x y : Int64} (hdg : decode bytes pc = .ok (.lxor, 1)) (kk : AW X n h k sl (pc + 1) L (.long (x ^^^ y) :: st)) : AW X n h k sl pc L (.long y :: .long x :: st) := by
  obtain ⟨p, l, e, R, s, m, args, below, meth, c, Q, E, nL⟩ := X
  obtain ⟨hx, hb, hml, hown, hts, hK, hlk, hr, hR, hQ⟩ := hX
  intro H locs ls hW hS hz hl
  exact lv_lxor hx hb hdg (kk H locs ls hW hS hz hl)

theorem aw_lshl {X : CX} {own : String} {bytes : ByteArray} {ret : Option FieldType} {fr lo mc ms n1 : Nat} {post : Option Value → HP → Prop} {n k sl pc : Nat} {h : HP} {L : List (Option Value)} {st : List Value} (hX : Cx X own bytes ret fr lo mc ms n1 post) {x : Int64} {y : Int32} (hdg : decode bytes pc = .ok (.lshl, 1)) (kk : AW X n h k sl (pc + 1) L (.long (x <<< (y.toInt64 &&& 63)) :: st)) : AW X n h k sl pc L (.int y :: .long x :: st) := by
  obtain ⟨p, l, e, R, s, m, args, below, meth, c, Q, E, nL⟩ := X
  obtain ⟨hx, hb, hml, hown, hts, hK, hlk, hr, hR, hQ⟩ := hX
  intro H locs ls hW hS hz hl
  exact lv_lshl hx hb hdg rfl (kk H locs ls hW hS hz hl)

theorem aw_lshr {X : CX} {own : String} {bytes : ByteArray} {ret : Option FieldType} {fr lo mc ms n1 : Nat} {post : Option Value → HP → Prop} {n k sl pc : Nat} {h : HP} {L : List (Option Value)} {st : List Value} (hX : Cx X own bytes ret fr lo mc ms n1 post) {x : Int64} {y : Int32} (hdg : decode bytes pc = .ok (.lshr, 1)) (kk : AW X n h k sl (pc + 1) L (.long (x >>> (y.toInt64 &&& 63)) :: st)) : AW X n h k sl pc L (.int y :: .long x :: st) := by
  obtain ⟨p, l, e, R, s, m, args, below, meth, c, Q, E, nL⟩ := X
  obtain ⟨hx, hb, hml, hown, hts, hK, hlk, hr, hR, hQ⟩ := hX
  intro H locs ls hW hS hz hl
  exact lv_lshr hx hb hdg rfl (kk H locs ls hW hS hz hl)

theorem aw_i2l {X : CX} {own : String} {bytes : ByteArray} {ret : Option FieldType} {fr lo mc ms n1 : Nat} {post : Option Value → HP → Prop} {n k sl pc : Nat} {h : HP} {L : List (Option Value)} {st : List Value} (hX : Cx X own bytes ret fr lo mc ms n1 post) {x : Int32} (hdg : decode bytes pc = .ok (.i2l, 1)) (kk : AW X n h k sl (pc + 1) L (.long x.toInt64 :: st)) : AW X n h k sl pc L (.int x :: st) := by
  obtain ⟨p, l, e, R, s, m, args, below, meth, c, Q, E, nL⟩ := X
  obtain ⟨hx, hb, hml, hown, hts, hK, hlk, hr, hR, hQ⟩ := hX
  intro H locs ls hW hS hz hl
  exact lv_i2l hx hb hdg rfl (kk H locs ls hW hS hz hl)

theorem aw_l2i {X : CX} {own : String} {bytes : ByteArray} {ret : Option FieldType} {fr lo mc ms n1 : Nat} {post : Option Value → HP → Prop} {n k sl pc : Nat} {h : HP} {L : List (Option Value)} {st : List Value} (hX : Cx X own bytes ret fr lo mc ms n1 post) {x : Int64} (hdg : decode bytes pc = .ok (.l2i, 1)) (kk : AW X n h k sl (pc + 1) L (.int x.toInt32 :: st)) : AW X n h k sl pc L (.long x :: st) := by
  obtain ⟨p, l, e, R, s, m, args, below, meth, c, Q, E, nL⟩ := X
  obtain ⟨hx, hb, hml, hown, hts, hK, hlk, hr, hR, hQ⟩ := hX
  intro H locs ls hW hS hz hl
  exact lv_l2i hx hb hdg rfl (kk H locs ls hW hS hz hl)

theorem aw_lcmp {X : CX} {own : String} {bytes : ByteArray} {ret : Option FieldType} {fr lo mc ms n1 : Nat} {post : Option Value → HP → Prop} {n k sl pc : Nat} {h : HP} {L : List (Option Value)} {st : List Value} (hX : Cx X own bytes ret fr lo mc ms n1 post) {x y : Int64} (hdg : decode bytes pc = .ok (.lcmp, 1)) (kk : AW X n h k sl (pc + 1) L (.int (lg_cmp x y) :: st)) : AW X n h k sl pc L (.long y :: .long x :: st) := by
  obtain ⟨p, l, e, R, s, m, args, below, meth, c, Q, E, nL⟩ := X
  obtain ⟨hx, hb, hml, hown, hts, hK, hlk, hr, hR, hQ⟩ := hX
  intro H locs ls hW hS hz hl
  exact W.lcmp hx hb hdg (kk H locs ls hW hS hz hl)

theorem aw_ldc2 {X : CX} {own : String} {bytes : ByteArray} {ret : Option FieldType} {fr lo mc ms n1 : Nat} {post : Option Value → HP → Prop} {n k sl pc : Nat} {h : HP} {L : List (Option Value)} {st : List Value} (hX : Cx X own bytes ret fr lo mc ms n1 post) {ix : Nat} {v : Int64} (hc : Cond.constantLong own ix v ∈ tbG) (hdg : decode bytes pc = .ok (.ldc2_w ix, 3)) (kk : AW X n h k sl (pc + 3) L (.long v :: st)) : AW X n h k sl pc L st := by
  obtain ⟨p, l, e, R, s, m, args, below, meth, c, Q, E, nL⟩ := X
  obtain ⟨hx, hb, hml, hown, hts, hK, hlk, hr, hR, hQ⟩ := hX
  intro H locs ls hW hS hz hl
  exact lv_ldc2 hx hb hown (hts _ hc) hdg (kk H locs ls hW hS hz hl)

theorem aw_dup {X : CX} {own : String} {bytes : ByteArray} {ret : Option FieldType} {fr lo mc ms n1 : Nat} {post : Option Value → HP → Prop} {n k sl pc : Nat} {h : HP} {L : List (Option Value)} {st : List Value} (hX : Cx X own bytes ret fr lo mc ms n1 post) {v : Value} (hdg : decode bytes pc = .ok (.dup, 1)) (hc : v.category = 1) (kk : AW X n h k sl (pc + 1) L (v :: v :: st)) : AW X n h k sl pc L (v :: st) := by
  obtain ⟨p, l, e, R, s, m, args, below, meth, c, Q, E, nL⟩ := X
  obtain ⟨hx, hb, hml, hown, hts, hK, hlk, hr, hR, hQ⟩ := hX
  intro H locs ls hW hS hz hl
  exact lv_dup hx hb hdg ((cv_cat E v).trans hc) (kk H locs ls hW hS hz hl)

theorem aw_dup2 {X : CX} {own : String} {bytes : ByteArray} {ret : Option FieldType} {fr lo mc ms n1 : Nat} {post : Option Value → HP → Prop} {n k sl pc : Nat} {h : HP} {L : List (Option Value)} {st : List Value} (hX : Cx X own bytes ret fr lo mc ms n1 post) {v w : Value} (hdg : decode bytes pc = .ok (.dup2, 1)) (hc : v.category = 1) (hd : w.category = 1) (kk : AW X n h k sl (pc + 1) L (v :: w :: v :: w :: st)) : AW X n h k sl pc L (v :: w :: st) := by
  obtain ⟨p, l, e, R, s, m, args, below, meth, c, Q, E, nL⟩ := X
  obtain ⟨hx, hb, hml, hown, hts, hK, hlk, hr, hR, hQ⟩ := hX
  intro H locs ls hW hS hz hl
  exact lv_dup2_11 hx hb hdg ((cv_cat E v).trans hc) ((cv_cat E w).trans hd) (kk H locs ls hW hS hz hl)

theorem aw_if_eq {X : CX} {own : String} {bytes : ByteArray} {ret : Option FieldType} {fr lo mc ms n1 : Nat} {post : Option Value → HP → Prop} {n k sl pc : Nat} {h : HP} {L : List (Option Value)} {st : List Value} (hX : Cx X own bytes ret fr lo mc ms n1 post) {x : Int32} {off : Int} (tgt : Nat) (hdg : decode bytes pc = .ok (.ifCond .eq off, 3)) (ht : (pc : Int) + off = (tgt : Int)) (kt : x = 0 → AW X n h k sl tgt L st) (kf : ¬ x = 0 → AW X n h k sl (pc + 3) L st)  : AW X n h k sl pc L (.int x :: st) := by
  obtain ⟨p, l, e, R, s, m, args, below, meth, c, Q, E, nL⟩ := X
  obtain ⟨hx, hb, hml, hown, hts, hK, hlk, hr, hR, hQ⟩ := hX
  intro H locs ls hW hS hz hl
  exact lv_if_eq hx hb hdg ht (fun q => kt q H locs ls hW hS hz hl) (fun q => kf q H locs ls hW hS hz hl)

theorem aw_if_ne {X : CX} {own : String} {bytes : ByteArray} {ret : Option FieldType} {fr lo mc ms n1 : Nat} {post : Option Value → HP → Prop} {n k sl pc : Nat} {h : HP} {L : List (Option Value)} {st : List Value} (hX : Cx X own bytes ret fr lo mc ms n1 post) {x : Int32} {off : Int} (tgt : Nat) (hdg : decode bytes pc = .ok (.ifCond .ne off, 3)) (ht : (pc : Int) + off = (tgt : Int)) (kt : ¬ x = 0 → AW X n h k sl tgt L st) (kf : x = 0 → AW X n h k sl (pc + 3) L st)  : AW X n h k sl pc L (.int x :: st) := by
  obtain ⟨p, l, e, R, s, m, args, below, meth, c, Q, E, nL⟩ := X
  obtain ⟨hx, hb, hml, hown, hts, hK, hlk, hr, hR, hQ⟩ := hX
  intro H locs ls hW hS hz hl
  exact lv_if_ne hx hb hdg ht (fun q => kt q H locs ls hW hS hz hl) (fun q => kf q H locs ls hW hS hz hl)

theorem aw_if_lt {X : CX} {own : String} {bytes : ByteArray} {ret : Option FieldType} {fr lo mc ms n1 : Nat} {post : Option Value → HP → Prop} {n k sl pc : Nat} {h : HP} {L : List (Option Value)} {st : List Value} (hX : Cx X own bytes ret fr lo mc ms n1 post) {x : Int32} {off : Int} (tgt : Nat) (hdg : decode bytes pc = .ok (.ifCond .lt off, 3)) (ht : (pc : Int) + off = (tgt : Int)) (kt : x < 0 → AW X n h k sl tgt L st) (kf : ¬ x < 0 → AW X n h k sl (pc + 3) L st)  : AW X n h k sl pc L (.int x :: st) := by
  obtain ⟨p, l, e, R, s, m, args, below, meth, c, Q, E, nL⟩ := X
  obtain ⟨hx, hb, hml, hown, hts, hK, hlk, hr, hR, hQ⟩ := hX
  intro H locs ls hW hS hz hl
  exact lv_if_lt hx hb hdg ht (fun q => kt q H locs ls hW hS hz hl) (fun q => kf q H locs ls hW hS hz hl)

theorem aw_if_ge {X : CX} {own : String} {bytes : ByteArray} {ret : Option FieldType} {fr lo mc ms n1 : Nat} {post : Option Value → HP → Prop} {n k sl pc : Nat} {h : HP} {L : List (Option Value)} {st : List Value} (hX : Cx X own bytes ret fr lo mc ms n1 post) {x : Int32} {off : Int} (tgt : Nat) (hdg : decode bytes pc = .ok (.ifCond .ge off, 3)) (ht : (pc : Int) + off = (tgt : Int)) (kt : 0 ≤ x → AW X n h k sl tgt L st) (kf : ¬ 0 ≤ x → AW X n h k sl (pc + 3) L st)  : AW X n h k sl pc L (.int x :: st) := by
  obtain ⟨p, l, e, R, s, m, args, below, meth, c, Q, E, nL⟩ := X
  obtain ⟨hx, hb, hml, hown, hts, hK, hlk, hr, hR, hQ⟩ := hX
  intro H locs ls hW hS hz hl
  exact lv_if_ge hx hb hdg ht (fun q => kt q H locs ls hW hS hz hl) (fun q => kf q H locs ls hW hS hz hl)

theorem aw_if_gt {X : CX} {own : String} {bytes : ByteArray} {ret : Option FieldType} {fr lo mc ms n1 : Nat} {post : Option Value → HP → Prop} {n k sl pc : Nat} {h : HP} {L : List (Option Value)} {st : List Value} (hX : Cx X own bytes ret fr lo mc ms n1 post) {x : Int32} {off : Int} (tgt : Nat) (hdg : decode bytes pc = .ok (.ifCond .gt off, 3)) (ht : (pc : Int) + off = (tgt : Int)) (kt : 0 < x → AW X n h k sl tgt L st) (kf : ¬ 0 < x → AW X n h k sl (pc + 3) L st)  : AW X n h k sl pc L (.int x :: st) := by
  obtain ⟨p, l, e, R, s, m, args, below, meth, c, Q, E, nL⟩ := X
  obtain ⟨hx, hb, hml, hown, hts, hK, hlk, hr, hR, hQ⟩ := hX
  intro H locs ls hW hS hz hl
  exact lv_if_gt hx hb hdg ht (fun q => kt q H locs ls hW hS hz hl) (fun q => kf q H locs ls hW hS hz hl)

theorem aw_if_le {X : CX} {own : String} {bytes : ByteArray} {ret : Option FieldType} {fr lo mc ms n1 : Nat} {post : Option Value → HP → Prop} {n k sl pc : Nat} {h : HP} {L : List (Option Value)} {st : List Value} (hX : Cx X own bytes ret fr lo mc ms n1 post) {x : Int32} {off : Int} (tgt : Nat) (hdg : decode bytes pc = .ok (.ifCond .le off, 3)) (ht : (pc : Int) + off = (tgt : Int)) (kt : x ≤ 0 → AW X n h k sl tgt L st) (kf : ¬ x ≤ 0 → AW X n h k sl (pc + 3) L st)  : AW X n h k sl pc L (.int x :: st) := by
  obtain ⟨p, l, e, R, s, m, args, below, meth, c, Q, E, nL⟩ := X
  obtain ⟨hx, hb, hml, hown, hts, hK, hlk, hr, hR, hQ⟩ := hX
  intro H locs ls hW hS hz hl
  exact lv_if_le hx hb hdg ht (fun q => kt q H locs ls hW hS hz hl) (fun q => kf q H locs ls hW hS hz hl)

theorem aw_icmp_eq {X : CX} {own : String} {bytes : ByteArray} {ret : Option FieldType} {fr lo mc ms n1 : Nat} {post : Option Value → HP → Prop} {n k sl pc : Nat} {h : HP} {L : List (Option Value)} {st : List Value} (hX : Cx X own bytes ret fr lo mc ms n1 post) {x y : Int32} {off : Int} (tgt : Nat) (hdg : decode bytes pc = .ok (.if_icmp .eq off, 3)) (ht : (pc : Int) + off = (tgt : Int)) (kt : x = y → AW X n h k sl tgt L st) (kf : ¬ x = y → AW X n h k sl (pc + 3) L st)  : AW X n h k sl pc L (.int y :: .int x :: st) := by
  obtain ⟨p, l, e, R, s, m, args, below, meth, c, Q, E, nL⟩ := X
  obtain ⟨hx, hb, hml, hown, hts, hK, hlk, hr, hR, hQ⟩ := hX
  intro H locs ls hW hS hz hl
  exact lv_icmp_eq hx hb hdg ht (fun q => kt q H locs ls hW hS hz hl) (fun q => kf q H locs ls hW hS hz hl)

theorem aw_icmp_ne {X : CX} {own : String} {bytes : ByteArray} {ret : Option FieldType} {fr lo mc ms n1 : Nat} {post : Option Value → HP → Prop} {n k sl pc : Nat} {h : HP} {L : List (Option Value)} {st : List Value} (hX : Cx X own bytes ret fr lo mc ms n1 post) {x y : Int32} {off : Int} (tgt : Nat) (hdg : decode bytes pc = .ok (.if_icmp .ne off, 3)) (ht : (pc : Int) + off = (tgt : Int)) (kt : ¬ x = y → AW X n h k sl tgt L st) (kf : x = y → AW X n h k sl (pc + 3) L st)  : AW X n h k sl pc L (.int y :: .int x :: st) := by
  obtain ⟨p, l, e, R, s, m, args, below, meth, c, Q, E, nL⟩ := X
  obtain ⟨hx, hb, hml, hown, hts, hK, hlk, hr, hR, hQ⟩ := hX
  intro H locs ls hW hS hz hl
  exact lv_icmp_ne hx hb hdg ht (fun q => kt q H locs ls hW hS hz hl) (fun q => kf q H locs ls hW hS hz hl)

theorem aw_icmp_lt {X : CX} {own : String} {bytes : ByteArray} {ret : Option FieldType} {fr lo mc ms n1 : Nat} {post : Option Value → HP → Prop} {n k sl pc : Nat} {h : HP} {L : List (Option Value)} {st : List Value} (hX : Cx X own bytes ret fr lo mc ms n1 post) {x y : Int32} {off : Int} (tgt : Nat) (hdg : decode bytes pc = .ok (.if_icmp .lt off, 3)) (ht : (pc : Int) + off = (tgt : Int)) (kt : x < y → AW X n h k sl tgt L st) (kf : ¬ x < y → AW X n h k sl (pc + 3) L st)  : AW X n h k sl pc L (.int y :: .int x :: st) := by
  obtain ⟨p, l, e, R, s, m, args, below, meth, c, Q, E, nL⟩ := X
  obtain ⟨hx, hb, hml, hown, hts, hK, hlk, hr, hR, hQ⟩ := hX
  intro H locs ls hW hS hz hl
  exact lv_icmp_lt hx hb hdg ht (fun q => kt q H locs ls hW hS hz hl) (fun q => kf q H locs ls hW hS hz hl)

theorem aw_icmp_ge {X : CX} {own : String} {bytes : ByteArray} {ret : Option FieldType} {fr lo mc ms n1 : Nat} {post : Option Value → HP → Prop} {n k sl pc : Nat} {h : HP} {L : List (Option Value)} {st : List Value} (hX : Cx X own bytes ret fr lo mc ms n1 post) {x y : Int32} {off : Int} (tgt : Nat) (hdg : decode bytes pc = .ok (.if_icmp .ge off, 3)) (ht : (pc : Int) + off = (tgt : Int)) (kt : y ≤ x → AW X n h k sl tgt L st) (kf : ¬ y ≤ x → AW X n h k sl (pc + 3) L st)  : AW X n h k sl pc L (.int y :: .int x :: st) := by
  obtain ⟨p, l, e, R, s, m, args, below, meth, c, Q, E, nL⟩ := X
  obtain ⟨hx, hb, hml, hown, hts, hK, hlk, hr, hR, hQ⟩ := hX
  intro H locs ls hW hS hz hl
  exact lv_icmp_ge hx hb hdg ht (fun q => kt q H locs ls hW hS hz hl) (fun q => kf q H locs ls hW hS hz hl)

theorem aw_icmp_gt {X : CX} {own : String} {bytes : ByteArray} {ret : Option FieldType} {fr lo mc ms n1 : Nat} {post : Option Value → HP → Prop} {n k sl pc : Nat} {h : HP} {L : List (Option Value)} {st : List Value} (hX : Cx X own bytes ret fr lo mc ms n1 post) {x y : Int32} {off : Int} (tgt : Nat) (hdg : decode bytes pc = .ok (.if_icmp .gt off, 3)) (ht : (pc : Int) + off = (tgt : Int)) (kt : y < x → AW X n h k sl tgt L st) (kf : ¬ y < x → AW X n h k sl (pc + 3) L st)  : AW X n h k sl pc L (.int y :: .int x :: st) := by
  obtain ⟨p, l, e, R, s, m, args, below, meth, c, Q, E, nL⟩ := X
  obtain ⟨hx, hb, hml, hown, hts, hK, hlk, hr, hR, hQ⟩ := hX
  intro H locs ls hW hS hz hl
  exact lv_icmp_gt hx hb hdg ht (fun q => kt q H locs ls hW hS hz hl) (fun q => kf q H locs ls hW hS hz hl)

theorem aw_icmp_le {X : CX} {own : String} {bytes : ByteArray} {ret : Option FieldType} {fr lo mc ms n1 : Nat} {post : Option Value → HP → Prop} {n k sl pc : Nat} {h : HP} {L : List (Option Value)} {st : List Value} (hX : Cx X own bytes ret fr lo mc ms n1 post) {x y : Int32} {off : Int} (tgt : Nat) (hdg : decode bytes pc = .ok (.if_icmp .le off, 3)) (ht : (pc : Int) + off = (tgt : Int)) (kt : x ≤ y → AW X n h k sl tgt L st) (kf : ¬ x ≤ y → AW X n h k sl (pc + 3) L st)  : AW X n h k sl pc L (.int y :: .int x :: st) := by
  obtain ⟨p, l, e, R, s, m, args, below, meth, c, Q, E, nL⟩ := X
  obtain ⟨hx, hb, hml, hown, hts, hK, hlk, hr, hR, hQ⟩ := hX
  intro H locs ls hW hS hz hl
  exact lv_icmp_le hx hb hdg ht (fun q => kt q H locs ls hW hS hz hl) (fun q => kf q H locs ls hW hS hz hl)

theorem aw_goto {X : CX} {own : String} {bytes : ByteArray} {ret : Option FieldType} {fr lo mc ms n1 : Nat} {post : Option Value → HP → Prop} {n k sl pc : Nat} {h : HP} {L : List (Option Value)} {st : List Value} (hX : Cx X own bytes ret fr lo mc ms n1 post) {off : Int} (tgt : Nat) (hdg : decode bytes pc = .ok (.goto off, 3)) (ht : (pc : Int) + off = (tgt : Int)) (kk : AW X n h k sl tgt L st) : AW X n h k sl pc L st := by
  obtain ⟨p, l, e, R, s, m, args, below, meth, c, Q, E, nL⟩ := X
  obtain ⟨hx, hb, hml, hown, hts, hK, hlk, hr, hR, hQ⟩ := hX
  intro H locs ls hW hS hz hl
  exact lv_goto hx hb hdg ht (kk H locs ls hW hS hz hl)

theorem aw_ifnull {X : CX} {own : String} {bytes : ByteArray} {ret : Option FieldType} {fr lo mc ms n1 : Nat} {post : Option Value → HP → Prop} {n k sl pc : Nat} {h : HP} {L : List (Option Value)} {st : List Value} (hX : Cx X own bytes ret fr lo mc ms n1 post) {off : Int} {x : Nat} (hdg : decode bytes pc = .ok (.ifnull off, 3)) (kk : AW X n h k sl (pc + 3) L st) : AW X n h k sl pc L (.ref x :: st) := by
  obtain ⟨p, l, e, R, s, m, args, below, meth, c, Q, E, nL⟩ := X
  obtain ⟨hx, hb, hml, hown, hts, hK, hlk, hr, hR, hQ⟩ := hX
  intro H locs ls hW hS hz hl
  exact lv_ifnull hx hb hdg (kk H locs ls hW hS hz hl)

theorem aw_tabIn {X : CX} {own : String} {bytes : ByteArray} {ret : Option FieldType} {fr lo mc ms n1 : Nat} {post : Option Value → HP → Prop} {n k sl pc : Nat} {h : HP} {L : List (Option Value)} {st : List Value} (hX : Cx X own bytes ret fr lo mc ms n1 post) {dflt lw hi : Int} {offs : Array Int} {len : Nat} {x : Int32} {off : Int} (tgt : Nat) (hdg : decode bytes pc = .ok (.tableswitch dflt lw hi offs, len)) (h1 : ¬ x.toInt < lw) (h2 : ¬ hi < x.toInt) (ho : offs[(x.toInt - lw).toNat]? = some off) (ht : (pc : Int) + off = (tgt : Int)) (kk : AW X n h k sl tgt L st) : AW X n h k sl pc L (.int x :: st) := by
  obtain ⟨p, l, e, R, s, m, args, below, meth, c, Q, E, nL⟩ := X
  obtain ⟨hx, hb, hml, hown, hts, hK, hlk, hr, hR, hQ⟩ := hX
  intro H locs ls hW hS hz hl
  exact lv_tableIn hx hb hdg h1 h2 ho ht (kk H locs ls hW hS hz hl)

theorem aw_tabOut {X : CX} {own : String} {bytes : ByteArray} {ret : Option FieldType} {fr lo mc ms n1 : Nat} {post : Option Value → HP → Prop} {n k sl pc : Nat} {h : HP} {L : List (Option Value)} {st : List Value} (hX : Cx X own bytes ret fr lo mc ms n1 post) {dflt lw hi : Int} {offs : Array Int} {len : Nat} {x : Int32} (tgt : Nat) (hdg : decode bytes pc = .ok (.tableswitch dflt lw hi offs, len)) (h1 : x.toInt < lw ∨ hi < x.toInt) (ht : (pc : Int) + dflt = (tgt : Int)) (kk : AW X n h k sl tgt L st) : AW X n h k sl pc L (.int x :: st) := by
  obtain ⟨p, l, e, R, s, m, args, below, meth, c, Q, E, nL⟩ := X
  obtain ⟨hx, hb, hml, hown, hts, hK, hlk, hr, hR, hQ⟩ := hX
  intro H locs ls hW hS hz hl
  exact lv_tableOut hx hb hdg h1 ht (kk H locs ls hW hS hz hl)

theorem aw_ldc {X : CX} {own : String} {bytes : ByteArray} {ret : Option FieldType} {fr lo mc ms n1 : Nat} {post : Option Value → HP → Prop} {n k sl pc : Nat} {h : HP} {L : List (Option Value)} {st : List Value} (hX : Cx X own bytes ret fr lo mc ms n1 post) {ix : Nat} {v : Int32} (hc : Cond.constant own ix v ∈ tbG) (hdg : decode bytes pc = .ok (.ldc ix, 2)) (kk : AW X n h k sl (pc + 2) L (.int v :: st)) : AW X n h k sl pc L st := by
  obtain ⟨p, l, e, R, s, m, args, below, meth, c, Q, E, nL⟩ := X
  obtain ⟨hx, hb, hml, hown, hts, hK, hlk, hr, hR, hQ⟩ := hX
  intro H locs ls hW hS hz hl
  exact lv_ldc hx hb hown (hts _ hc) hdg (kk H locs ls hW hS hz hl)

theorem aw_ldcw {X : CX} {own : String} {bytes : ByteArray} {ret : Option FieldType} {fr lo mc ms n1 : Nat} {post : Option Value → HP → Prop} {n k sl pc : Nat} {h : HP} {L : List (Option Value)} {st : List Value} (hX : Cx X own bytes ret fr lo mc ms n1 post) {ix : Nat} {v : Int32} (hc : Cond.constant own ix v ∈ tbG) (hdg : decode bytes pc = .ok (.ldc_w ix, 3)) (kk : AW X n h k sl (pc + 3) L (.int v :: st)) : AW X n h k sl pc L st := by
  obtain ⟨p, l, e, R, s, m, args, below, meth, c, Q, E, nL⟩ := X
  obtain ⟨hx, hb, hml, hown, hts, hK, hlk, hr, hR, hQ⟩ := hX
  intro H locs ls hW hS hz hl
  exact lv_ldcw hx hb hown (hts _ hc) hdg (kk H locs ls hW hS hz hl)

theorem aw_alen {X : CX} {own : String} {bytes : ByteArray} {ret : Option FieldType} {fr lo mc ms n1 : Nat} {post : Option Value → HP → Prop} {n k sl pc : Nat} {h : HP} {L : List (Option Value)} {st : List Value} (hX : Cx X own bytes ret fr lo mc ms n1 post) {a t N : Nat} {z : (Nat → Int32) ⊕ ((Nat → Option Nat) ⊕ (Nat → Int64))} (v : Int32) (hh : h a = some (.inl (t, N, z))) (ht : t < 4) (hv : Int32.ofNat N = v) (hdg : decode bytes pc = .ok (.arraylength, 1)) (kk : AW X n h k sl (pc + 1) L (.int v :: st)) : AW X n h k sl pc L (.ref a :: st) := by
  obtain ⟨p, l, e, R, s, m, args, below, meth, c, Q, E, nL⟩ := X
  obtain ⟨hx, hb, hml, hown, hts, hK, hlk, hr, hR, hQ⟩ := hX
  intro H locs ls hW hS hz hl
  obtain ⟨ws, q0, hP, hD, hq, -⟩ := Wd.list hW hh
  obtain ⟨ty, hty⟩ := tysE_at E ht
  rcases z with f | g | g
  · exact va_alen hx hb hK.1 hP q0 t hq hty hv hdg (kk H locs ls hW hS hz hl)
  · exact va_alen hx hb hK.1 hP q0 t hq hty hv hdg (kk H locs ls hW hS hz hl)
  · exact va_alen hx hb hK.1 hP q0 t hq hty hv hdg (kk H locs ls hW hS hz hl)

theorem aw_iald {X : CX} {own : String} {bytes : ByteArray} {ret : Option FieldType} {fr lo mc ms n1 : Nat} {post : Option Value → HP → Prop} {n k sl pc : Nat} {h : HP} {L : List (Option Value)} {st : List Value} (hX : Cx X own bytes ret fr lo mc ms n1 post) {a N : Nat} {f : Nat → Int32} {i : Int32} (hh : h a = some (cI N f)) (hin : vp_in i N) (hdg : decode bytes pc = .ok (.iaload, 1)) (kk : AW X n h k sl (pc + 1) L (.int (f i.toNatClampNeg) :: st)) : AW X n h k sl pc L (.int i :: .ref a :: st) := by
  obtain ⟨p, l, e, R, s, m, args, below, meth, c, Q, E, nL⟩ := X
  obtain ⟨hx, hb, hml, hown, hts, hK, hlk, hr, hR, hQ⟩ := hX
  intro H locs ls hW hS hz hl
  obtain ⟨ws, q0, hP, hD, hq, -⟩ := Wd.list hW hh
  exact va_iald hx hb hK.1 hP q0 0 hq rfl hin hdg (kk H locs ls hW hS hz hl)

theorem aw_iast {X : CX} {own : String} {bytes : ByteArray} {ret : Option FieldType} {fr lo mc ms n1 : Nat} {post : Option Value → HP → Prop} {n k sl pc : Nat} {h : HP} {L : List (Option Value)} {st : List Value} (hX : Cx X own bytes ret fr lo mc ms n1 post) {a N : Nat} {f : Nat → Int32} {i x : Int32} (hh : h a = some (cI N f)) (hin : vp_in i N) (hdg : decode bytes pc = .ok (.iastore, 1)) (kk : AW X n (hset h a (cI N (upd f i.toNatClampNeg x))) k sl (pc + 1) L st) : AW X n h k sl pc L (.int x :: .int i :: .ref a :: st) := by
  obtain ⟨p, l, e, R, s, m, args, below, meth, c, Q, E, nL⟩ := X
  obtain ⟨hx, hb, hml, hown, hts, hK, hlk, hr, hR, hQ⟩ := hX
  intro H locs ls hW hS hz hl
  obtain ⟨ws, q0, hP, hD, hq, hback⟩ := Wd.list hW hh
  refine va_iast hx hb hK.1 hP hD hS q0 0 hq rfl hin hdg (fun H1 locs1 hP1 hD1 hS1 => W.sz (fun hsz => ?_))
  obtain ⟨hW1, hz1⟩ := hback (cI N (upd f i.toNatClampNeg x)) H1 hP1 (by omega)
  exact kk H1 locs1 ls hW1 hS1 (by omega) hl

theorem aw_lald {X : CX} {own : String} {bytes : ByteArray} {ret : Option FieldType} {fr lo mc ms n1 : Nat} {post : Option Value → HP → Prop} {n k sl pc : Nat} {h : HP} {L : List (Option Value)} {st : List Value} (hX : Cx X own bytes ret fr lo mc ms n1 post) {a N : Nat} {f : Nat → Int64} {i : Int32} (hh : h a = some (cL N f)) (hin : vp_in i N) (hdg : decode bytes pc = .ok (.laload, 1)) (kk : AW X n h k sl (pc + 1) L (.long (f i.toNatClampNeg) :: st)) : AW X n h k sl pc L (.int i :: .ref a :: st) := by
  obtain ⟨p, l, e, R, s, m, args, below, meth, c, Q, E, nL⟩ := X
  obtain ⟨hx, hb, hml, hown, hts, hK, hlk, hr, hR, hQ⟩ := hX
  intro H locs ls hW hS hz hl
  obtain ⟨ws, q0, hP, hD, hq, -⟩ := Wd.list hW hh
  exact va_lald hx hb hK.1 hP q0 3 hq rfl hin hdg (kk H locs ls hW hS hz hl)

theorem aw_last {X : CX} {own : String} {bytes : ByteArray} {ret : Option FieldType} {fr lo mc ms n1 : Nat} {post : Option Value → HP → Prop} {n k sl pc : Nat} {h : HP} {L : List (Option Value)} {st : List Value} (hX : Cx X own bytes ret fr lo mc ms n1 post) {a N : Nat} {f : Nat → Int64} {i : Int32} {x : Int64} (hh : h a = some (cL N f)) (hin : vp_in i N) (hdg : decode bytes pc = .ok (.lastore, 1)) (kk : AW X n (hset h a (cL N (vp_updL f i.toNatClampNeg x))) k sl (pc + 1) L st) : AW X n h k sl pc L (.long x :: .int i :: .ref a :: st) := by
  obtain ⟨p, l, e, R, s, m, args, below, meth, c, Q, E, nL⟩ := X
  obtain ⟨hx, hb, hml, hown, hts, hK, hlk, hr, hR, hQ⟩ := hX
  intro H locs ls hW hS hz hl
  obtain ⟨ws, q0, hP, hD, hq, hback⟩ := Wd.list hW hh
  refine va_last hx hb hK.1 hP hD hS q0 3 hq rfl hin hdg (fun H1 locs1 hP1 hD1 hS1 => W.sz (fun hsz => ?_))
  obtain ⟨hW1, hz1⟩ := hback (cL N (vp_updL f i.toNatClampNeg x)) H1 hP1 (by omega)
  exact kk H1 locs1 ls hW1 hS1 (by omega) hl

theorem aw_aald {X : CX} {own : String} {bytes : ByteArray} {ret : Option FieldType} {fr lo mc ms n1 : Nat} {post : Option Value → HP → Prop} {n k sl pc : Nat} {h : HP} {L : List (Option Value)} {st : List Value} (hX : Cx X own bytes ret fr lo mc ms n1 post) {a t N b : Nat} {g : Nat → Option Nat} {i : Int32} (hh : h a = some (cG t N g)) (ht : t = 1 ∨ t = 2) (hin : vp_in i N) (hb2 : g i.toNatClampNeg = some b) (hdg : decode bytes pc = .ok (.aaload, 1)) (kk : AW X n h k sl (pc + 1) L (.ref b :: st)) : AW X n h k sl pc L (.int i :: .ref a :: st) := by
  obtain ⟨p, l, e, R, s, m, args, below, meth, c, Q, E, nL⟩ := X
  obtain ⟨hx, hb, hml, hown, hts, hK, hlk, hr, hR, hQ⟩ := hX
  intro H locs ls hW hS hz hl
  obtain ⟨ws, q0, hP, hD, hq, -⟩ := Wd.list hW hh
  have hlt : i.toNatClampNeg < N := Nat.not_le.mp fun q => hin (Or.inr q)
  have hv : (arrV (eC E t) N (fun j => va_rf ((g j).map (ad E)))).slots[i.toNatClampNeg]? = some (.ref (ad E b)) := by
    rw [arrV_read _ _ hlt, hb2]
    rfl
  rcases ht with rfl | rfl
  · exact W.aald (ty := .array .int) hx hb (hP q0 _ hq) ((hK.1.2 1 _ rfl).1 N (fun j => va_rf ((g j).map (ad E)))) rfl (fun q => by cases q) (by show ¬ (i < 0 ∨ (arrV _ _ _).slots.size ≤ _); rw [arrV_size]; exact hin) hv rfl rfl hdg (kk H locs ls hW hS hz hl)
  · exact W.aald (ty := .object RX8) hx hb (hP q0 _ hq) ((hK.1.2 2 _ rfl).1 N (fun j => va_rf ((g j).map (ad E)))) rfl (fun q => by cases q) (by show ¬ (i < 0 ∨ (arrV _ _ _).slots.size ≤ _); rw [arrV_size]; exact hin) hv rfl rfl hdg (kk H locs ls hW hS hz hl)

theorem aw_roald {X : CX} {own : String} {bytes : ByteArray} {ret : Option FieldType} {fr lo mc ms n1 : Nat} {post : Option Value → HP → Prop} {n k sl pc : Nat} {h : HP} {L : List (Option Value)} {st : List Value} (hX : Cx X own bytes ret fr lo mc ms n1 post) {a : Nat} {i : Int32} (ha : a < 5) (hin : vp_in i (eN X.E a)) (hdg : decode bytes pc = .ok (.iaload, 1)) (kk : AW X n h k sl (pc + 1) L (.int (eF X.E a i.toNatClampNeg) :: st)) : AW X n h k sl pc L (.int i :: .ref a :: st) := by
  obtain ⟨p, l, e, R, s, m, args, below, meth, c, Q, E, nL⟩ := X
  obtain ⟨hx, hb, hml, hown, hts, hK, hlk, hr, hR, hQ⟩ := hX
  intro H locs ls hW hS hz hl
  have e1 : cv E (.ref a) = .ref (eT E a) := by simp [cv, ad, ha]
  show W p l e R s m args below meth c H locs k sl Q (F0 m pc ls (.int i :: cv E (.ref a) :: st.map (cv E)))
  rw [e1]
  exact va_ti hx hb (hK.2.2.1 a ha) hS hin rfl hdg (kk H locs ls hW hS hz hl)

theorem aw_rolen {X : CX} {own : String} {bytes : ByteArray} {ret : Option FieldType} {fr lo mc ms n1 : Nat} {post : Option Value → HP → Prop} {n k sl pc : Nat} {h : HP} {L : List (Option Value)} {st : List Value} (hX : Cx X own bytes ret fr lo mc ms n1 post) {a : Nat} (v : Int32) (ha : a < 5) (hv : Int32.ofNat (eN X.E a) = v) (hdg : decode bytes pc = .ok (.arraylength, 1)) (kk : AW X n h k sl (pc + 1) L (.int v :: st)) : AW X n h k sl pc L (.ref a :: st) := by
  obtain ⟨p, l, e, R, s, m, args, below, meth, c, Q, E, nL⟩ := X
  obtain ⟨hx, hb, hml, hown, hts, hK, hlk, hr, hR, hQ⟩ := hX
  intro H locs ls hW hS hz hl
  have e1 : cv E (.ref a) = .ref (eT E a) := by simp [cv, ad, ha]
  show W p l e R s m args below meth c H locs k sl Q (F0 m pc ls (cv E (.ref a) :: st.map (cv E)))
  rw [e1]
  exact va_tlen hx hb (hK.2.2.1 a ha) hS hv hdg (kk H locs ls hW hS hz hl)

theorem aw_gets {X : CX} {own : String} {bytes : ByteArray} {ret : Option FieldType} {fr lo mc ms n1 : Nat} {post : Option Value → HP → Prop} {n k sl pc : Nat} {h : HP} {L : List (Option Value)} {st : List Value} (hX : Cx X own bytes ret fr lo mc ms n1 post) {a ix : Nat} {nm : String} (hF : (nm = "FIRST_NUMBERS" ∧ a = 0) ∨ (nm = "LEAST_NUMBERS" ∧ a = 1) ∨ (nm = "MOST_NUMBERS" ∧ a = 2) ∨ (nm = "SHIFTS" ∧ a = 3)) (hlink : Cond.fieldLink own ix RX9 nm "[I" ∈ tbG) (hdg : decode bytes pc = .ok (.getstatic ix, 3)) (kk : AW X n h k sl (pc + 3) L (.ref a :: st)) : AW X n h k sl pc L st := by
  obtain ⟨p, l, e, R, s, m, args, below, meth, c, Q, E, nL⟩ := X
  obtain ⟨hx, hb, hml, hown, hts, hK, hlk, hr, hR, hQ⟩ := hX
  intro H locs ls hW hS hz hl
  obtain ⟨z0, z1, z2, z3⟩ := hK.2.1
  have hk := kk H locs ls hW hS hz hl
  rcases hF with ⟨rfl, rfl⟩ | ⟨rfl, rfl⟩ | ⟨rfl, rfl⟩ | ⟨rfl, rfl⟩
  · exact va_gets hx hb z0 hS hown (hts _ hlink) (fun _ q => q) hdg hk
  · exact va_gets hx hb z1 hS hown (hts _ hlink) (fun _ q => q) hdg hk
  · exact va_gets hx hb z2 hS hown (hts _ hlink) (fun _ q => q) hdg hk
  · exact va_gets hx hb z3 hS hown (hts _ hlink) (fun _ q => q) hdg hk

theorem aw_getsN {X : CX} {own : String} {bytes : ByteArray} {ret : Option FieldType} {fr lo mc ms n1 : Nat} {post : Option Value → HP → Prop} {n k sl pc : Nat} {h : HP} {L : List (Option Value)} {st : List Value} (hX : Cx X own bytes ret fr lo mc ms n1 post) {a ix : Nat} {nm host : String} (own2 : String) (ho : own2 = own) (hF : (nm = "FIRST_NUMBERS" ∧ a = 0) ∨ (nm = "LEAST_NUMBERS" ∧ a = 1) ∨ (nm = "MOST_NUMBERS" ∧ a = 2) ∨ (nm = "SHIFTS" ∧ a = 3)) (hlink : Cond.fieldLinkNest own2 ix RX9 nm "[I" host ∈ lw_tbl) (hdg : decode bytes pc = .ok (.getstatic ix, 3)) (kk : AW X n h k sl (pc + 3) L (.ref a :: st)) : AW X n h k sl pc L st := by
  obtain ⟨p, l, e, R, s, m, args, below, meth, c, Q, E, nL⟩ := X
  obtain ⟨hx, hb, hml, hown, hts, hK, hlk, hr, hR, hQ⟩ := hX
  intro H locs ls hW hS hz hl
  subst ho
  obtain ⟨z0, z1, z2, z3⟩ := hK.2.1
  have hk := kk H locs ls hW hS hz hl
  rcases hF with ⟨rfl, rfl⟩ | ⟨rfl, rfl⟩ | ⟨rfl, rfl⟩ | ⟨rfl, rfl⟩
  · exact va_getsN hx hb z0 hS hown (hK.nest hlink rfl) (fun _ q => q) hdg hk
  · exact va_getsN hx hb z1 hS hown (hK.nest hlink rfl) (fun _ q => q) hdg hk
  · exact va_getsN hx hb z2 hS hown (hK.nest hlink rfl) (fun _ q => q) hdg hk
  · exact va_getsN hx hb z3 hS hown (hK.nest hlink rfl) (fun _ q => q) hdg hk

theorem aw_get {X : CX} {own : String} {bytes : ByteArray} {ret : Option FieldType} {fr lo mc ms n1 : Nat} {post : Option Value → HP → Prop} {n k sl pc : Nat} {h : HP} {L : List (Option Value)} {st : List Value} (hX : Cx X own bytes ret fr lo mc ms n1 post) {own2 C : String} {T : u_T} {N ci ix a : Nat} {fs : List Value} {v : Value} (k0 : Nat) (ho : own2 = own) (hc : vwCl[ci]? = some (C, T, N)) (hin : ∀ w ∈ u_ws C T N, w ∈ tbG) (hlink : Cond.fieldLink own2 ix (T k0).1 (T k0).2.1 (T k0).2.2.1 ∈ tbG) (hk0 : k0 < N) (hh : h a = some (cO ci fs)) (hv : fs[k0]? = some v) (hdg : decode bytes pc = .ok (.getfield ix, 3)) (kk : AW X n h k sl (pc + 3) L (v :: st)) : AW X n h k sl pc L (.ref a :: st) := by
  obtain ⟨p, l, e, R, s, m, args, below, meth, c, Q, E, nL⟩ := X
  obtain ⟨hx, hb, hml, hown, hts, hK, hlk, hr, hR, hQ⟩ := hX
  intro H locs ls hW hS hz hl
  subst ho
  obtain ⟨ws, q0, hP, hD, hq, -⟩ := Wd.list hW hh
  exact va_get hx hb hts hin hown hK.1 hP q0 hq hc k0 hk0 (hts _ hlink) (fun _ q => q) (by rw [List.getElem?_map, hv]; rfl) hdg (kk H locs ls hW hS hz hl)

theorem aw_getN {X : CX} {own : String} {bytes : ByteArray} {ret : Option FieldType} {fr lo mc ms n1 : Nat} {post : Option Value → HP → Prop} {n k sl pc : Nat} {h : HP} {L : List (Option Value)} {st : List Value} (hX : Cx X own bytes ret fr lo mc ms n1 post) {own2 C host : String} {T : u_T} {N ci ix a : Nat} {fs : List Value} {v : Value} (k0 : Nat) (ho : own2 = own) (hc : vwCl[ci]? = some (C, T, N)) (hin : ∀ w ∈ u_ws C T N, w ∈ tbG) (hlink : Cond.fieldLinkNest own2 ix (T k0).1 (T k0).2.1 (T k0).2.2.1 host ∈ lw_tbl) (hk0 : k0 < N) (hh : h a = some (cO ci fs)) (hv : fs[k0]? = some v) (hdg : decode bytes pc = .ok (.getfield ix, 3)) (kk : AW X n h k sl (pc + 3) L (v :: st)) : AW X n h k sl pc L (.ref a :: st) := by
  obtain ⟨p, l, e, R, s, m, args, below, meth, c, Q, E, nL⟩ := X
  obtain ⟨hx, hb, hml, hown, hts, hK, hlk, hr, hR, hQ⟩ := hX
  intro H locs ls hW hS hz hl
  subst ho
  obtain ⟨ws, q0, hP, hD, hq, -⟩ := Wd.list hW hh
  exact va_getN hx hb hts hin hown hK.1 hP q0 hq hc k0 hk0 (hK.nest hlink rfl) (fun _ q => q) (by rw [List.getElem?_map, hv]; rfl) hdg (kk H locs ls hW hS hz hl)

theorem aw_put {X : CX} {own : String} {bytes : ByteArray} {ret : Option FieldType} {fr lo mc ms n1 : Nat} {post : Option Value → HP → Prop} {n k sl pc : Nat} {h : HP} {L : List (Option Value)} {st : List Value} (hX : Cx X own bytes ret fr lo mc ms n1 post) {own2 C : String} {T : u_T} {N ci ix a : Nat} {fs : List Value} {v : Value} {ty : FieldType} (k0 : Nat) (ho : own2 = own) (hc : vwCl[ci]? = some (C, T, N)) (hin : ∀ w ∈ u_ws C T N, w ∈ tbG) (ty0 : Nat → FieldType) (hty : ∀ k, k < N → parseFieldDescriptor (T k).2.2.1 = some (ty0 k)) (hnm : ∀ a, a < N → ∀ b, b < N → a ≠ b → (T a).2.1 ≠ (T b).2.1) (hlink : Cond.fieldLink own2 ix (T k0).1 (T k0).2.1 (T k0).2.2.1 ∈ tbG) (hk0 : k0 < N) (hfin : (T k0).2.2.2 = false) (hd : parseFieldDescriptor (T k0).2.2.1 = some ty) (hn : narrow ty (cv X.E v) = cv X.E v) (hft : fits ty (cv X.E v) = true) (hh : h a = some (cO ci fs)) (hlen : k0 < fs.length) (hdg : decode bytes pc = .ok (.putfield ix, 3)) (kk : AW X n (hset h a (cO ci (fs.set k0 v))) k sl (pc + 3) L st) : AW X n h k sl pc L (v :: .ref a :: st) := by
  obtain ⟨p, l, e, R, s, m, args, below, meth, c, Q, E, nL⟩ := X
  obtain ⟨hx, hb, hml, hown, hts, hK, hlk, hr, hR, hQ⟩ := hX
  intro H locs ls hW hS hz hl
  subst ho
  obtain ⟨ws, q0, hP, hD, hq, hback⟩ := Wd.list hW hh
  refine va_put hx hb hts hin ty0 hty hnm hown hK.1 hP hD hS q0 hq hc k0 hk0 (hts _ hlink) (fun _ q => q) hfin  hd (ty := ty) hn hft (by rw [List.length_map]; exact hlen) hdg (fun H1 locs1 hP1 hD1 hS1 => W.sz (fun hsz => ?_))
  rw [← cc_set E ci fs k0] at hP1
  obtain ⟨hW1, hz1⟩ := hback (cO ci (fs.set k0 v)) H1 hP1 (by omega)
  exact kk H1 locs1 ls hW1 hS1 (by omega) hl

theorem aw_putF {X : CX} {own : String} {bytes : ByteArray} {ret : Option FieldType} {fr lo mc ms n1 : Nat} {post : Option Value → HP → Prop} {n k sl pc : Nat} {h : HP} {L : List (Option Value)} {st : List Value} (hX : Cx X own bytes ret fr lo mc ms n1 post) {own2 C : String} {T : u_T} {N ci ix a : Nat} {fs : List Value} {v : Value} {ty : FieldType} (k0 : Nat) (ho : own2 = own) (hc : vwCl[ci]? = some (C, T, N)) (hin : ∀ w ∈ u_ws C T N, w ∈ tbG) (ty0 : Nat → FieldType) (hty : ∀ k, k < N → parseFieldDescriptor (T k).2.2.1 = some (ty0 k)) (hnm : ∀ a, a < N → ∀ b, b < N → a ≠ b → (T a).2.1 ≠ (T b).2.1) (hlink : Cond.fieldLink own2 ix (T k0).1 (T k0).2.1 (T k0).2.2.1 ∈ tbG) (hk0 : k0 < N) (hfin : (T k0).2.2.2 = true) (hini : X.2.2.2.2.2.2.2.2.1.name = "<init>") (hdecl : (T k0).1 = own2) (hd : parseFieldDescriptor (T k0).2.2.1 = some ty) (hn : narrow ty (cv X.E v) = cv X.E v) (hft : fits ty (cv X.E v) = true) (hh : h a = some (cO ci fs)) (hlen : k0 < fs.length) (hdg : decode bytes pc = .ok (.putfield ix, 3)) (kk : AW X n (hset h a (cO ci (fs.set k0 v))) k sl (pc + 3) L st) : AW X n h k sl pc L (v :: .ref a :: st) := by
  obtain ⟨p, l, e, R, s, m, args, below, meth, c, Q, E, nL⟩ := X
  obtain ⟨hx, hb, hml, hown, hts, hK, hlk, hr, hR, hQ⟩ := hX
  intro H locs ls hW hS hz hl
  subst ho
  obtain ⟨ws, q0, hP, hD, hq, hback⟩ := Wd.list hW hh
  refine va_putF hx hb hts hin ty0 hty hnm hown hK.1 hP hD hS q0 hq hc k0 hk0 (hts _ hlink) (fun _ q => q) hfin hini hdecl hd (ty := ty) hn hft (by rw [List.length_map]; exact hlen) hdg (fun H1 locs1 hP1 hD1 hS1 => W.sz (fun hsz => ?_))
  rw [← cc_set E ci fs k0] at hP1
  obtain ⟨hW1, hz1⟩ := hback (cO ci (fs.set k0 v)) H1 hP1 (by omega)
  exact kk H1 locs1 ls hW1 hS1 (by omega) hl

theorem aw_iret {X : CX} {own : String} {bytes : ByteArray} {ret : Option FieldType} {fr lo mc ms n1 : Nat} {post : Option Value → HP → Prop} {n k sl pc : Nat} {h : HP} {L : List (Option Value)} (hX : Cx X own bytes ret fr lo mc ms n1 post) {v : Int32} (hr1 : ret = some .int) (hn1 : n1 = n) (hk1 : mc = k) (hs1 : ms = sl) (hdg : decode bytes pc = .ok (.ireturn, 1)) (hp : post (some (.int v)) h)  : AW X n h k sl pc L [.int v] := by
  obtain ⟨p, l, e, R, s, m, args, below, meth, c, Q, E, nL⟩ := X
  obtain ⟨hx, hb, hml, hown, hts, hK, hlk, hr, hR, hQ⟩ := hX
  intro H locs ls hW hS hz hl
  subst hQ
  subst hn1
  subst hk1
  subst hs1
  exact W.iret hx hb (hr.trans hr1) (fun t ht _ => ⟨⟨some (.int v), h, rfl, hp, by rw [ht]; exact hW⟩, hS.F ht⟩) hS.2.2 hdg hlk

theorem aw_zret {X : CX} {own : String} {bytes : ByteArray} {ret : Option FieldType} {fr lo mc ms n1 : Nat} {post : Option Value → HP → Prop} {n k sl pc : Nat} {h : HP} {L : List (Option Value)} (hX : Cx X own bytes ret fr lo mc ms n1 post) {v : Int32} (hr1 : ret = some .boolean) (hv : v = 0 ∨ v = 1) (hn1 : n1 = n) (hk1 : mc = k) (hs1 : ms = sl) (hdg : decode bytes pc = .ok (.ireturn, 1)) (hp : post (some (.int v)) h)  : AW X n h k sl pc L [.int v] := by
  obtain ⟨p, l, e, R, s, m, args, below, meth, c, Q, E, nL⟩ := X
  obtain ⟨hx, hb, hml, hown, hts, hK, hlk, hr, hR, hQ⟩ := hX
  intro H locs ls hW hS hz hl
  subst hQ
  subst hn1
  subst hk1
  subst hs1
  exact W.zret hx hb (hr.trans hr1) (by rcases hv with rfl | rfl <;> rfl) (fun t ht _ => ⟨⟨some (.int v), h, rfl, hp, by rw [ht]; exact hW⟩, hS.F ht⟩) hS.2.2 hdg hlk

theorem aw_vret {X : CX} {own : String} {bytes : ByteArray} {ret : Option FieldType} {fr lo mc ms n1 : Nat} {post : Option Value → HP → Prop} {n k sl pc : Nat} {h : HP} {L : List (Option Value)} (hX : Cx X own bytes ret fr lo mc ms n1 post) (hr1 : ret = none) (hn1 : n1 = n) (hk1 : mc = k) (hs1 : ms = sl) (hdg : decode bytes pc = .ok (.return_, 1)) (hp : post none h)  : AW X n h k sl pc L [] := by
  obtain ⟨p, l, e, R, s, m, args, below, meth, c, Q, E, nL⟩ := X
  obtain ⟨hx, hb, hml, hown, hts, hK, hlk, hr, hR, hQ⟩ := hX
  intro H locs ls hW hS hz hl
  subst hQ
  subst hn1
  subst hk1
  subst hs1
  exact W.vret hx hb (hr.trans hr1) (fun t ht _ => ⟨⟨none, h, rfl, hp, by rw [ht]; exact hW⟩, hS.F ht⟩) hS.2.2 hdg hlk

theorem aw_aret {X : CX} {own : String} {bytes : ByteArray} {ret : Option FieldType} {fr lo mc ms n1 : Nat} {post : Option Value → HP → Prop} {n k sl pc : Nat} {h : HP} {L : List (Option Value)} (hX : Cx X own bytes ret fr lo mc ms n1 post) {a : Nat} {nm : String} (hr1 : ret = some (.object nm)) (hn1 : n1 = n) (hk1 : mc = k) (hs1 : ms = sl) (hdg : decode bytes pc = .ok (.areturn, 1)) (hp : post (some (.ref a)) h)  : AW X n h k sl pc L [.ref a] := by
  obtain ⟨p, l, e, R, s, m, args, below, meth, c, Q, E, nL⟩ := X
  obtain ⟨hx, hb, hml, hown, hts, hK, hlk, hr, hR, hQ⟩ := hX
  intro H locs ls hW hS hz hl
  subst hQ
  subst hn1
  subst hk1
  subst hs1
  exact W.aret hx hb (hr.trans hr1) (Or.inl ⟨_, rfl⟩) (Or.inr ⟨_, rfl⟩) (fun t ht _ => ⟨⟨some (.ref a), h, rfl, hp, by rw [ht]; exact hW⟩, hS.F ht⟩) hS.2.2 hdg hlk
