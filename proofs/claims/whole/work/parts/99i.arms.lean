/-! the law's cases -/
section LY
variable {p : Program} {l : Launch} {e : Env} {s : State} {m : MethodId} {below : List Frame} {meth : Method} {c' : Code} {b L : Nat} {xs : Nat → Int32} {D : va_G} {K : Nat → ClassId} {σ τ : Hp} {ls st : List Value} {pc len n i k : Nat}
variable {idx : Nat} {l5 l6 l7 : Value}
/-- where a case begins -/
def tg (k : Nat) : Nat := [264, 289, 314, 327, 340, 413, 450, 475, 500, 568, 593, 642, 667, 704, 741, 790, 827, 864, 901, 914, 927, 952, 965, 1002, 1027, 1064, 1101, 1150, 1199, 1236, 1273, 1310, 1323, 1348, 1361, 1410, 1459, 1472, 1497, 1534, 1571, 1596, 1633, 1658, 1707, 1744, 1757, 1770, 1807, 1832, 1857, 1882][k]?.getD 1937
def swO : Array Int := #[224, 249, 274, 287, 300, 373, 410, 435, 460, 528, 553, 602, 627, 664, 701, 750, 787, 824, 861, 874, 887, 912, 925, 962, 987, 1024, 1061, 1110, 1159, 1196, 1233, 1270, 1283, 1308, 1321, 1370, 1419, 1432, 1457, 1494, 1531, 1556, 1593, 1618, 1667, 1704, 1717, 1730, 1767, 1792, 1817, 1842]
theorem larm (C : LC p l s m meth c' b L xs D K) (hLL : i + 6 ≤ L) (hidx : idx < 600) (hI : Inv s.heap.size idx σ) (kk : ∀ τ l5 l6 l7, Inv s.heap.size (idx + 1) τ → Go p l e room_1 s m #[Value.ref b] below meth c' (lw_Z below #[Value.ref b] s) D K s.heap.size 8 s.heap.size 0 (1937, [.ref b, .ref s.heap.size, .ref (s.heap.size + 24), .ref (s.heap.size + 41), .int (nI i), l5, l6, l7], [], τ)) : ∀ k, k < 64 → Go p l e room_1 s m #[Value.ref b] below meth c' (lw_Z below #[Value.ref b] s) D K s.heap.size 8 s.heap.size 0 (tg k, [.ref b, .ref s.heap.size, .ref (s.heap.size + 24), .ref (s.heap.size + 41), .int (nI i), l5, l6, l7], [], σ) := fun k hk => match k, hk with
  | 0, _ => lcase C 1 (P := 264) (jx := 23) (jm := 27) (X := 19) (M := 139) (by decide +kernel) (by omega) hLL (J_sign _) hidx hI (fun τ h => kk τ _ _ _ h)
  | 1, _ => lcase C 1 (P := 289) (jx := 28) (jm := 32) (X := 21) (M := 140) (by decide +kernel) (by omega) hLL (J_end _) hidx hI (fun τ h => kk τ _ _ _ h)
  | 2, _ => lcase C 0 (P := 314) (jx := 33) (jm := 37) (X := 22) (M := 142) (by decide +kernel) (by omega) hLL (J_map) hidx hI (fun τ h => kk τ _ _ _ h)
  | 3, _ => lcase C 0 (P := 327) (jx := 38) (jm := 41) (X := 41) (M := 157) (by decide +kernel) (by omega) hLL (J_batch) hidx hI (fun τ h => kk τ _ _ _ h)
  | 4, _ => lcase C 5 (P := 340) (jx := 42) (jm := 46) (X := 53) (M := 171) (by decide +kernel) (by omega) hLL (J_sheet _ _ _ _ _) hidx hI (fun τ h => kk τ _ _ _ h)
  | 5, _ => lcase C 2 (P := 413) (jx := 47) (jm := 50) (X := 58) (M := 184) (by decide +kernel) (by omega) hLL (J_level _ _) hidx hI (fun τ h => kk τ _ _ _ h)
  | 6, _ => lcase C 1 (P := 450) (jx := 51) (jm := 54) (X := 61) (M := 185) (by decide +kernel) (by omega) hLL (J_holes _) hidx hI (fun τ h => kk τ _ _ _ h)
  | 7, _ => lcase C 1 (P := 475) (jx := 55) (jm := 58) (X := 62) (M := 186) (by decide +kernel) (by omega) hLL (J_middle _) hidx hI (fun τ h => kk τ _ _ _ h)
  | 8, _ => lget C hLL hidx hI kk
  | 9, _ => lcase C 1 (P := 568) (jx := 68) (jm := 71) (X := 64) (M := 177) (by decide +kernel) (by omega) hLL (J_root _) hidx hI (fun τ h => kk τ _ _ _ h)
  | 10, _ => lcase C 3 (P := 593) (jx := 72) (jm := 76) (X := 65) (M := 182) (by decide +kernel) (by omega) hLL (J_node _ _ _) hidx hI (fun τ h => kk τ _ _ _ h)
  | 11, _ => lcase C 1 (P := 642) (jx := 77) (jm := 80) (X := 66) (M := 187) (by decide +kernel) (by omega) hLL (J_nodes _) hidx hI (fun τ h => kk τ _ _ _ h)
  | 12, _ => lcase C 2 (P := 667) (jx := 81) (jm := 84) (X := 67) (M := 190) (by decide +kernel) (by omega) hLL (J_key _ _) hidx hI (fun τ h => kk τ _ _ _ h)
  | 13, _ => lcase C 2 (P := 704) (jx := 85) (jm := 88) (X := 68) (M := 191) (by decide +kernel) (by omega) hLL (J_near _ _) hidx hI (fun τ h => kk τ _ _ _ h)
  | 14, _ => lcase C 3 (P := 741) (jx := 89) (jm := 92) (X := 69) (M := 192) (by decide +kernel) (by omega) hLL (J_sum _ _ _) hidx hI (fun τ h => kk τ _ _ _ h)
  | 15, _ => lcase C 2 (P := 790) (jx := 93) (jm := 96) (X := 71) (M := 194) (by decide +kernel) (by omega) hLL (J_with _ _) hidx hI (fun τ h => kk τ _ _ _ h)
  | 16, _ => lcase C 2 (P := 827) (jx := 97) (jm := 100) (X := 72) (M := 195) (by decide +kernel) (by omega) hLL (J_proof _ _) hidx hI (fun τ h => kk τ _ _ _ h)
  | 17, _ => lcase C 2 (P := 864) (jx := 101) (jm := 105) (X := 76) (M := 198) (by decide +kernel) (by omega) hLL (J_alters _ _) hidx hI (fun τ h => kk τ _ _ _ h)
  | 18, _ => lcase C 0 (P := 901) (jx := 106) (jm := 109) (X := 78) (M := 153) (by decide +kernel) (by omega) hLL (J_told) hidx hI (fun τ h => kk τ _ _ _ h)
  | 19, _ => lcase C 0 (P := 914) (jx := 110) (jm := 113) (X := 83) (M := 199) (by decide +kernel) (by omega) hLL (J_hand) hidx hI (fun τ h => kk τ _ _ _ h)
  | 20, _ => lcase C 1 (P := 927) (jx := 114) (jm := 117) (X := 84) (M := 200) (by decide +kernel) (by omega) hLL (J_accepts _) hidx hI (fun τ h => kk τ _ _ _ h)
  | 21, _ => lcase C 0 (P := 952) (jx := 118) (jm := 121) (X := 87) (M := 204) (by decide +kernel) (by omega) hLL (J_accepted) hidx hI (fun τ h => kk τ _ _ _ h)
  | 22, _ => lcase C 2 (P := 965) (jx := 122) (jm := 125) (X := 88) (M := 205) (by decide +kernel) (by omega) hLL (J_bare _ _) hidx hI (fun τ h => kk τ _ _ _ h)
  | 23, _ => lcase C 1 (P := 1002) (jx := 126) (jm := 129) (X := 90) (M := 206) (by decide +kernel) (by omega) hLL (J_together _) hidx hI (fun τ h => kk τ _ _ _ h)
  | 24, _ => lcase C 2 (P := 1027) (jx := 130) (jm := 133) (X := 94) (M := 209) (by decide +kernel) (by omega) hLL (J_others _ _) hidx hI (fun τ h => kk τ _ _ _ h)
  | 25, _ => lcase C 2 (P := 1064) (jx := 134) (jm := 137) (X := 95) (M := 217) (by decide +kernel) (by omega) hLL (J_path _ _) hidx hI (fun τ h => kk τ _ _ _ h)
  | 26, _ => lcase C 3 (P := 1101) (jx := 138) (jm := 141) (X := 96) (M := 218) (by decide +kernel) (by omega) hLL (J_stretch _ _ _) hidx hI (fun τ h => kk τ _ _ _ h)
  | 27, _ => lcase C 3 (P := 1150) (jx := 142) (jm := 145) (X := 98) (M := 220) (by decide +kernel) (by omega) hLL (J_forks _ _ _) hidx hI (fun τ h => kk τ _ _ _ h)
  | 28, _ => lcase C 2 (P := 1199) (jx := 146) (jm := 149) (X := 99) (M := 210) (by decide +kernel) (by omega) hLL (J_shared _ _) hidx hI (fun τ h => kk τ _ _ _ h)
  | 29, _ => lcase C 2 (P := 1236) (jx := 150) (jm := 153) (X := 101) (M := 212) (by decide +kernel) (by omega) hLL (J_differ _ _) hidx hI (fun τ h => kk τ _ _ _ h)
  | 30, _ => lcase C 2 (P := 1273) (jx := 154) (jm := 157) (X := 102) (M := 213) (by decide +kernel) (by omega) hLL (J_looks _ _) hidx hI (fun τ h => kk τ _ _ _ h)
  | 31, _ => lcase C 0 (P := 1310) (jx := 158) (jm := 161) (X := 103) (M := 214) (by decide +kernel) (by omega) hLL (J_all) hidx hI (fun τ h => kk τ _ _ _ h)
  | 32, _ => lcase C 1 (P := 1323) (jx := 162) (jm := 165) (X := 106) (M := 221) (by decide +kernel) (by omega) hLL (J_history _) hidx hI (fun τ h => kk τ _ _ _ h)
  | 33, _ => lcase C 0 (P := 1348) (jx := 166) (jm := 169) (X := 107) (M := 222) (by decide +kernel) (by omega) hLL (J_hot) hidx hI (fun τ h => kk τ _ _ _ h)
  | 34, _ => lcase C 3 (P := 1361) (jx := 170) (jm := 173) (X := 109) (M := 224) (by decide +kernel) (by omega) hLL (J_would _ _ _) hidx hI (fun τ h => kk τ _ _ _ h)
  | 35, _ => lcase C 3 (P := 1410) (jx := 174) (jm := 177) (X := 110) (M := 225) (by decide +kernel) (by omega) hLL (J_against _ _ _) hidx hI (fun τ h => kk τ _ _ _ h)
  | 36, _ => lcase C 0 (P := 1459) (jx := 178) (jm := 181) (X := 112) (M := 215) (by decide +kernel) (by omega) hLL (J_versions) hidx hI (fun τ h => kk τ _ _ _ h)
  | 37, _ => lcase C 1 (P := 1472) (jx := 182) (jm := 185) (X := 114) (M := 216) (by decide +kernel) (by omega) hLL (J_since _) hidx hI (fun τ h => kk τ _ _ _ h)
  | 38, _ => lcase C 2 (P := 1497) (jx := 186) (jm := 189) (X := 115) (M := 229) (by decide +kernel) (by omega) hLL (J_puts _ _) hidx hI (fun τ h => kk τ _ _ _ h)
  | 39, _ => lcase C 2 (P := 1534) (jx := 190) (jm := 193) (X := 116) (M := 231) (by decide +kernel) (by omega) hLL (J_moves _ _) hidx hI (fun τ h => kk τ _ _ _ h)
  | 40, _ => lcase C 1 (P := 1571) (jx := 194) (jm := 197) (X := 118) (M := 239) (by decide +kernel) (by omega) hLL (J_flips _) hidx hI (fun τ h => kk τ _ _ _ h)
  | 41, _ => lcase C 2 (P := 1596) (jx := 198) (jm := 201) (X := 119) (M := 233) (by decide +kernel) (by omega) hLL (J_swaps _ _) hidx hI (fun τ h => kk τ _ _ _ h)
  | 42, _ => lcase C 1 (P := 1633) (jx := 202) (jm := 205) (X := 120) (M := 235) (by decide +kernel) (by omega) hLL (J_back _) hidx hI (fun τ h => kk τ _ _ _ h)
  | 43, _ => lcase C 3 (P := 1658) (jx := 206) (jm := 209) (X := 121) (M := 228) (by decide +kernel) (by omega) hLL (J_joins _ _ _) hidx hI (fun τ h => kk τ _ _ _ h)
  | 44, _ => lcase C 2 (P := 1707) (jx := 210) (jm := 213) (X := 122) (M := 237) (by decide +kernel) (by omega) hLL (J_clears _ _) hidx hI (fun τ h => kk τ _ _ _ h)
  | 45, _ => lcase C 0 (P := 1744) (jx := 214) (jm := 217) (X := 123) (M := 240) (by decide +kernel) (by omega) hLL (J_day) hidx hI (fun τ h => kk τ _ _ _ h)
  | 46, _ => lcase C 0 (P := 1757) (jx := 218) (jm := 221) (X := 127) (M := 244) (by decide +kernel) (by omega) hLL (J_undo) hidx hI (fun τ h => kk τ _ _ _ h)
  | 47, _ => lcase C 2 (P := 1770) (jx := 222) (jm := 225) (X := 128) (M := 245) (by decide +kernel) (by omega) hLL (J_years _ _) hidx hI (fun τ h => kk τ _ _ _ h)
  | 48, _ => lcase C 1 (P := 1807) (jx := 226) (jm := 229) (X := 131) (M := 247) (by decide +kernel) (by omega) hLL (J_keep _) hidx hI (fun τ h => kk τ _ _ _ h)
  | 49, _ => lcase C 1 (P := 1832) (jx := 230) (jm := 233) (X := 133) (M := 248) (by decide +kernel) (by omega) hLL (J_again _) hidx hI (fun τ h => kk τ _ _ _ h)
  | 50, _ => lcase C 1 (P := 1857) (jx := 234) (jm := 237) (X := 134) (M := 249) (by decide +kernel) (by omega) hLL (J_count _) hidx hI (fun τ h => kk τ _ _ _ h)
  | 51, _ => lrow C hLL hidx hI kk
  | k + 52, hk => by
    have e : tg (k + 52) = 1937 := by
      unfold tg
      rw [List.getElem?_eq_none (by simp)]
      rfl
    rw [e]
    obtain ⟨z, n, B, L', q, K', A, R, I, A2, R2, I2, h1, h2, h3, h4, h5, h6⟩ := hI
    exact kk σ _ _ _ ⟨z, n, B, L', q, K', A, R, I, A2, R2, I2, h1, h2, h3, h4, h5, h6.up hidx⟩
end LY
