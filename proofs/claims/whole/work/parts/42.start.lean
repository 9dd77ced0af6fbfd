/-! The law from its entry, and the claim -/
def a0 : tH := (fun c i k => match c with | 7 => (match k with | 0 => nI i | _ => 0) | 18 => (match k with | 8 => 1 | _ => 0) | _ => 0, fun _ => none)
def b0 : tH := (fun _ _ _ => 0, fun _ => none)
theorem Z0 : Z a0 b0 none 0 0 0 0 0 0 [] := by
  refine ⟨⟨rfl, rfl, by decide, fun p hp => ⟨0, by decide, rfl, rfl, fun _ => rfl, fun i hi => ⟨rfl, rfl⟩, fun i hi => absurd hi (Nat.not_lt_zero i)⟩⟩, ⟨rfl, Or.inl rfl, rfl, rfl, rfl, rfl, rfl, by decide, by decide, rfl, rfl, fun w => absurd w (by decide), fun _ => rfl⟩, fun t ht => absurd ht (Nat.not_lt_zero t), fun x hx => ⟨rfl, Or.inl rfl, fun w => absurd (show (0 : Int32) = 1 from w) (by decide)⟩, ⟨rfl, rfl, by decide, fun k hk => ⟨rfl, rfl⟩⟩, fun t ht k hk => rfl, fun t ht => rfl, ⟨rfl, by decide, rfl, fun j s h => by simp at h, List.nodup_nil, fun t h => by simp at h, fun j s h => nomatch h⟩, ⟨rfl, by decide, rfl, fun j s h => by simp at h, List.nodup_nil, fun t h => by simp at h⟩⟩
theorem Zp0 : Zp a0 b0 := ⟨0, 0, 0, 0, 0, [], Z0, Or.inl ⟨rfl, Or.inl rfl⟩, by decide⟩
def adF (q0 qP q1 qk qo qR qf ql l1 qb b1 b2 qr w1 w2 qM m1 m2 m3 m4 m5 m6 m7 m8 m9 m10 m11 m12 m13 m14 m15 m16 m17 m18 m19 m20 m21 m22 : Nat) (rk ro r0 r1 r2 : Nat → Nat) : Nat → Nat → Nat := fun c i => match c with
  | 0 => q0
  | 1 => qP
  | 2 => q1
  | 3 => qk
  | 4 => rk i
  | 5 => qo
  | 6 => ro i
  | 7 => r0 i
  | 8 => r1 i
  | 9 => r2 i
  | 10 => ql
  | 11 => l1
  | 12 => qb
  | 13 => b1
  | 14 => b2
  | 15 => qr
  | 16 => w1
  | 17 => w2
  | 18 => qR
  | 19 => qf
  | 20 => qM
  | 21 => m1
  | 22 => m2
  | 23 => m3
  | 24 => m4
  | 25 => m5
  | 26 => m6
  | 27 => m7
  | 28 => m8
  | 29 => m9
  | 30 => m10
  | 31 => m11
  | 32 => m12
  | 33 => m13
  | 34 => m14
  | 35 => m15
  | 36 => m16
  | 37 => m17
  | 38 => m18
  | 39 => m19
  | 40 => m20
  | 41 => m21
  | 42 => m22
  | _ => 0
def mdW (G : tG) (qM m1 m2 m3 m4 m5 m6 m7 m8 m9 m10 m11 m12 m13 m14 m15 m16 m17 m18 m19 m20 m21 m22 : Nat) : va_W := [(qM, .inr (7, [.int 0, .int 0, .ref m1, .ref m2, .ref m3, .int 0, .int 0, .int 0, .int 0, .int 0, .int 0, .int 0, .ref m4, .ref m5, .ref m6, .ref m7, .ref m8, .ref m9, .ref m10, .ref m11, .ref m12, .ref m13, .ref m14, .ref m15, .ref m16, .ref m17, .int 0, .int 0, .ref m18, .ref m19, .ref m20, .int 0, .ref m21, .ref m22, .int 0])), (m1, .inl (G.2 0, 12, .inl (fun _ => 0))), (m2, .inl (G.2 0, 240, .inl (fun _ => 0))), (m3, .inl (G.2 0, 240, .inl (fun _ => 0))), (m4, .inl (G.2 0, 24, .inl (fun _ => 0))), (m5, .inl (G.2 0, 24, .inl (fun _ => 0))), (m6, .inl (G.2 0, 24, .inl (fun _ => 0))), (m7, .inl (G.2 0, 24, .inl (fun _ => 0))), (m8, .inl (G.2 0, 24, .inl (fun _ => 0))), (m9, .inl (G.2 0, 96, .inl (fun _ => 0))), (m10, .inl (G.2 1, 24, .inl (fun _ => 0))), (m11, .inl (G.2 0, 24, .inl (fun _ => 0))), (m12, .inl (G.2 0, 96, .inl (fun _ => 0))), (m13, .inl (G.2 0, 24, .inl (fun _ => 0))), (m14, .inl (G.2 0, 24, .inl (fun _ => 0))), (m15, .inl (G.2 0, 24, .inl (fun _ => 0))), (m16, .inl (G.2 0, 24, .inl (fun _ => 0))), (m17, .inl (G.2 0, 24, .inl (fun _ => 0))), (m18, .inl (G.2 0, 25, .inl (fun _ => 0))), (m19, .inl (G.2 0, 8, .inl (fun _ => 0))), (m20, .inl (G.2 1, 8, .inl (fun _ => 0))), (m21, .inl (G.2 0, 100, .inl (fun _ => 0))), (m22, .inl (G.2 0, 100, .inl (fun _ => 0)))]
def isW : List Nat := [0, 1, 2, 3, 4, 5, 6, 7, 8, 9, 10, 11, 12, 13, 14, 15, 16, 17, 18, 19, 20, 21, 22, 23, 24, 25, 26, 27, 28, 39, 42, 45, 48, 51, 54, 57, 60, 63, 66, 69, 72, 75, 78, 81, 84, 87, 90, 93, 96, 99, 102, 105, 108, 40, 43, 46, 49, 52, 55, 58, 61, 64, 67, 70, 73, 76, 79, 82, 85, 88, 91, 94, 97, 100, 103, 106, 109, 41, 44, 47, 50, 53, 56, 59, 62, 65, 68, 71, 74, 77, 80, 83, 86, 89, 92, 95, 98, 101, 104, 107, 110, 31, 32, 33, 34, 35, 36, 37, 38, 29, 30, 111, 112, 113, 114, 115, 116, 117, 118, 119, 120, 121, 122, 123, 124, 125, 126, 127, 128, 129, 130, 131, 132, 133, 134]
set_option maxHeartbeats 40000000 in
set_option maxRecDepth 1000000 in
theorem tw_eq (G : tG) (cL : ClassId) (f : Nat → Int64) (q0 qP q1 qk qo qR qf ql l1 qb b1 b2 qr w1 w2 qM m1 m2 m3 m4 m5 m6 m7 m8 m9 m10 m11 m12 m13 m14 m15 m16 m17 m18 m19 m20 m21 m22 qq : Nat) (rk ro r0 r1 r2 : Nat → Nat) : isW.map (fun i => (ttW G q0 qR qP q1 qk qo rk ro (runW G qR qP qf ql l1 qb b1 b2 qr w1 w2 r0 r1 r2) ++ (mdW G qM m1 m2 m3 m4 m5 m6 m7 m8 m9 m10 m11 m12 m13 m14 m15 m16 m17 m18 m19 m20 m21 m22 ++ [ouE qq cL f]))[i]?) = (wlo G (adF q0 qP q1 qk qo qR qf ql l1 qb b1 b2 qr w1 w2 qM m1 m2 m3 m4 m5 m6 m7 m8 m9 m10 m11 m12 m13 m14 m15 m16 m17 m18 m19 m20 m21 m22 rk ro r0 r1 r2) (mix a0 b0) qq cL f).map some := by rfl
