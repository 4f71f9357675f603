section LIT
variable {ki : Int} {ln : Int} {bt : Nat → Int32} {rl : Value} {cp : Int} {cs : Int} {ct : Int} {cv : Int} {rr : Nat} {dr : Nat} {ja : Int} {ea : Int} {ma : Int} {a1 : Nat → Int32} {a2 : Nat → Int32} {a3 : Nat → Int32} {a4 : Nat → Int32} {a5 : Nat → Int32} {a6 : Nat → Int32} {a7 : Nat → Int32} {a8 : Nat → Int32} {jb : Int} {eb : Int} {mb : Int} {b1 : Nat → Int32} {b2 : Nat → Int32} {b3 : Nat → Int32} {b4 : Nat → Int32} {b5 : Nat → Int32} {b6 : Nat → Int32} {b7 : Nat → Int32} {b8 : Nat → Int32} {re : Int} {fl : Int} {g1 : Nat → Int32} {g2 : Nat → Int32} {g3 : Nat → Int32} {g4 : Nat → Int32} {g5 : Nat → Int32} {rt : Int} {la : Int} {rs : Int} {rg : Int} {pd : Nat → Int32} {du : Nat → Int32} {ds : Nat → Int32} {me : Nat → Int32} {tt : Nat → Int32} {gr : Nat → Int32} {su : Nat → Int32} {gp : Nat → Int32} {mk : Int64} {rf : Nat → Option Nat} {m1 : Nat → Int32} {m2 : Nat → Int32} {m3 : Nat → Int32} {m4 : Nat → Int32} {m5 : Nat → Int32} {mr : Int} {mf : Int} {n1 : Nat → Int32} {n2 : Nat → Int32} {n3 : Nat → Int32} {n4 : Nat → Int32} {n5 : Nat → Int32} {nr : Int} {nf : Int} {th : Int} {tr : Int64} {db : Int} {sn : Int} {dm : Int} {sm : Int} {ty : Int} {nx : Int} {tk : Int} {pl : Int} {va : Int} {fa : Int} {lr : Int} {ri : Int} {s : Nat → Int32} {kp : Nat → Int32} {ik : Nat → Int32} {tn : Nat → Int32} {de : Nat → Int32} {sd : Nat → Int32} {dd : Nat → Int32} {sr : Nat → Int32} {tx : Nat → Int32} {pa : Nat → Int32} {v : Bool}
theorem Ex_to (h : EXx s de sd) : as_Ex (GW ki ln bt rl cp cs ct cv rr dr ja ea ma a1 a2 a3 a4 a5 a6 a7 a8 jb eb mb b1 b2 b3 b4 b5 b6 b7 b8 re fl g1 g2 g3 g4 g5 rt la rs rg pd du ds me tt gr su gp mk rf m1 m2 m3 m4 m5 mr mf n1 n2 n3 n4 n5 nr nf th tr db sn dm sm ty nx tk pl va fa lr ri s kp ik tn de sd dd sr tx pa) := by
  refine ⟨fun x v h1 h2 => ?_, fun x a b h1 h2 => ?_⟩
  · obtain ⟨j, j1, j2, j3⟩ := G_of GW_62 h1
    obtain ⟨q, q1, q2, q3⟩ := G_of GW_62 h2
    have hx : 0 ≤ x := by omega
    obtain ⟨i, rfl⟩ := Int.eq_ofNat_of_zero_le hx
    have e1 : j = 5 * i + 2 := by omega
    have e2 : q = 5 * i + 3 := by omega
    subst e1
    subst e2
    rw [← q3]
    exact h.1 i (by omega) j3
  · obtain ⟨j, j1, j2, j3⟩ := G_of GW_57 h1
    obtain ⟨q, q1, q2, q3⟩ := G_of GW_61 h2
    subst j1
    have e2 : q = 3 * j + 2 := by omega
    subst e2
    rw [← j3, ← q3]
    exact h.2 j (by omega)
end LIT
