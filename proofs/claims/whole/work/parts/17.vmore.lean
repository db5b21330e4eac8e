/-! More rows: lookupswitch of two cases -/
section VM
variable {x : vX} {own : String} {cc : ByteArray} {nL dd : Nat} {ret : Option FieldType} {pc : Nat} {L : List (Option Value)} {st : List Value} {σ : vW}
theorem v_look2 {dflt o0 o1 : Int} {len : Nat} {a : Int32} {t0 t1 td : Nat} (G : vG x own cc nL ret dd) (dg : decode cc pc = .ok (.lookupswitch dflt #[(0, o0), (1, o1)], len)) (h0 : (pc : Int) + o0 = (t0 : Int)) (h1 : (pc : Int) + o1 = (t1 : Int)) (hd : (pc : Int) + dflt = (td : Int)) (k0 : a = nI 0 → V x t0 L st σ) (k1 : a = nI 1 → V x t1 L st σ) (kd : ¬ a = nI 0 → ¬ a = nI 1 → V x td L st σ) : V x pc L (.int a :: st) σ := by
  have hs : (((#[(0, o0), (1, o1)] : Array (Int × Int)).toList).zip (((#[(0, o0), (1, o1)] : Array (Int × Int)).toList).drop 1)).all (fun (a, next) => a.1 < next.1) = true := by rfl
  by_cases e0 : a = nI 0
  · refine v_lookup (off := o0) G dg hs ?_ h0 (k0 e0)
    rw [e0]
    show Op.lookupswitch.offset ((0, o0) :: [(1, o1)]) dflt (nI 0).toInt = o0
    rw [Op.lookupswitch.offset_cons, if_pos (by decide)]
  · by_cases e1 : a = nI 1
    · refine v_lookup (off := o1) G dg hs ?_ h1 (k1 e1)
      show Op.lookupswitch.offset ((0, o0) :: [(1, o1)]) dflt a.toInt = o1
      rw [lv_osw e0 (by decide), e1, Op.lookupswitch.offset_cons, if_pos (by decide)]
    · refine v_lookup (off := dflt) G dg hs ?_ hd (kd e0 e1)
      show Op.lookupswitch.offset ((0, o0) :: [(1, o1)]) dflt a.toInt = dflt
      rw [lv_osw e0 (by decide), lv_osw e1 (by decide)]
      rfl
end VM
