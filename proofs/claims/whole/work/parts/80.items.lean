/-! ===== what is to be done, item by item ===== -/
section KCI
variable {yz9 : ys_T} {Cz9 Rz9 : ai_S} {Gz9 : gg_T} {pd : Nat → Nat} {l : List Nat} {fz9 bz9 nfz9 na tz9 en wt : Nat}
theorem kci_0 (hz9 : kc yz9 Cz9 Rz9 Gz9 pd (0 :: l) fz9 bz9 nfz9 na tz9 en wt) : (pd fz9 = 6 ∧ gr Gz9 fz9 + en ≤ na) ∧ ∃ t' nz9 zz9 jz9 kz9 b', tz9 = t' + 1 ∧ nd7 nz9 ∧ Rz9 22 t' = nI (9 + 16 * nz9 + 16384 * fz9) ∧ yR yz9 4 nz9 = nI zz9 ∧ yO yz9 (gs Gz9 fz9) kz9 jz9 zz9 bz9 b' ∧ tz9 + kz9 ≤ 90 * (na + en + 1) ∧ kz9 < 50 ∧ ve l = true ∧ kc yz9 Cz9 Rz9 Gz9 pd l fz9 b' nfz9 na t' en wt := by
  obtain ⟨_, _, _, _, h7, h8, hh⟩ := hz9
  have l7 : pd fz9 = 6 ∧ gr Gz9 fz9 + en ≤ na := by rcases h7 with h7 | h7; exact absurd h7 (by decide); exact h7
  rcases hh with hh | hh | hh | hh | hh | hh | hh | hh | hh | hh | hh | hh | hh
  · exact ⟨l7, hh.2⟩
  · exact absurd hh.1 (by decide)
  · exact absurd hh.1 (by decide)
  · exact absurd hh.1 (by decide)
  · exact absurd hh.1 (by decide)
  · exact absurd hh.1 (by decide)
  · exact absurd hh.1 (by decide)
  · exact absurd hh.1 (by decide)
  · exact absurd hh.1 (by decide)
  · exact absurd hh.1 (by decide)
  · exact absurd hh.1 (by decide)
  · exact absurd hh.1 (by decide)
  · exact absurd hh.1 (by decide)
theorem kci_1 (hz9 : kc yz9 Cz9 Rz9 Gz9 pd (1 :: l) fz9 bz9 nfz9 na tz9 en wt) : (pd fz9 = 6 ∧ gr Gz9 fz9 + en ≤ na) ∧ ∃ t' nz9 zz9 jz9 kz9 b' sg w', tz9 = t' + 1 ∧ nd7 nz9 ∧ Rz9 22 t' = nI (10 + 16 * nz9 + 16384 * fz9) ∧ yR yz9 8 nz9 = nI sg ∧ sg < 4 ∧ yK yz9 0 bz9 = nI (sg + 19) ∧ yR yz9 4 nz9 = nI zz9 ∧ yO yz9 (gs Gz9 fz9) kz9 jz9 zz9 (bz9 + 1) b' ∧ wt = w' + 1 ∧ tz9 + kz9 ≤ 90 * (na + en + 1) ∧ kz9 < 50 ∧ ve l = true ∧ kc yz9 Cz9 Rz9 Gz9 pd l fz9 b' nfz9 na t' en w' := by
  obtain ⟨_, _, _, _, h7, h8, hh⟩ := hz9
  have l7 : pd fz9 = 6 ∧ gr Gz9 fz9 + en ≤ na := by rcases h7 with h7 | h7; exact absurd h7 (by decide); exact h7
  rcases hh with hh | hh | hh | hh | hh | hh | hh | hh | hh | hh | hh | hh | hh
  · exact absurd hh.1 (by decide)
  · exact ⟨l7, hh.2⟩
  · exact absurd hh.1 (by decide)
  · exact absurd hh.1 (by decide)
  · exact absurd hh.1 (by decide)
  · exact absurd hh.1 (by decide)
  · exact absurd hh.1 (by decide)
  · exact absurd hh.1 (by decide)
  · exact absurd hh.1 (by decide)
  · exact absurd hh.1 (by decide)
  · exact absurd hh.1 (by decide)
  · exact absurd hh.1 (by decide)
  · exact absurd hh.1 (by decide)
theorem kci_2 (hz9 : kc yz9 Cz9 Rz9 Gz9 pd (2 :: l) fz9 bz9 nfz9 na tz9 en wt) : (pd fz9 = 6 ∧ gr Gz9 fz9 + en ≤ na) ∧ yK yz9 0 bz9 = 25 ∧ ∃ en' f' b', en = en' + 1 ∧ Cz9 16 en' = nI b' ∧ Cz9 17 en' = nI (gi Gz9 f') ∧ ve l = true ∧ kc yz9 Cz9 Rz9 Gz9 pd l f' b' nfz9 na tz9 en' wt := by
  obtain ⟨_, _, _, _, h7, h8, hh⟩ := hz9
  have l7 : pd fz9 = 6 ∧ gr Gz9 fz9 + en ≤ na := by rcases h7 with h7 | h7; exact absurd h7 (by decide); exact h7
  rcases hh with hh | hh | hh | hh | hh | hh | hh | hh | hh | hh | hh | hh | hh
  · exact absurd hh.1 (by decide)
  · exact absurd hh.1 (by decide)
  · exact ⟨l7, hh.2⟩
  · exact absurd hh.1 (by decide)
  · exact absurd hh.1 (by decide)
  · exact absurd hh.1 (by decide)
  · exact absurd hh.1 (by decide)
  · exact absurd hh.1 (by decide)
  · exact absurd hh.1 (by decide)
  · exact absurd hh.1 (by decide)
  · exact absurd hh.1 (by decide)
  · exact absurd hh.1 (by decide)
  · exact absurd hh.1 (by decide)
theorem kci_3 (hz9 : kc yz9 Cz9 Rz9 Gz9 pd (3 :: l) fz9 bz9 nfz9 na tz9 en wt) : (pd fz9 = 6 ∧ gr Gz9 fz9 + en ≤ na) ∧ (fz9 + 1 = nfz9 ∧ gi Gz9 fz9 = na) ∧ yK yz9 0 bz9 = 9 ∧ ∃ t' f2z9 vz9, tz9 = t' + 1 ∧ Rz9 22 t' = nI (1 + 16 * (gb Gz9 f2z9 + vz9)) ∧ f2z9 < nfz9 ∧ vz9 < gn Gz9 f2z9 ∧ gk Gz9 f2z9 vz9 = true ∧ pd f2z9 = 6 ∧ Cz9 15 na = nI (31 * gi Gz9 f2z9 + gc Gz9 f2z9 + vz9) ∧ ve l = false ∧ kc yz9 Cz9 Rz9 Gz9 pd l fz9 (bz9 + 1) nfz9 na t' en wt := by
  obtain ⟨_, _, _, _, h7, h8, hh⟩ := hz9
  have l7 : pd fz9 = 6 ∧ gr Gz9 fz9 + en ≤ na := by rcases h7 with h7 | h7; exact absurd h7 (by decide); exact h7
  have l8 : fz9 + 1 = nfz9 ∧ gi Gz9 fz9 = na := by rcases h8 with h8 | h8; exact absurd h8 (by decide); exact h8
  rcases hh with hh | hh | hh | hh | hh | hh | hh | hh | hh | hh | hh | hh | hh
  · exact absurd hh.1 (by decide)
  · exact absurd hh.1 (by decide)
  · exact absurd hh.1 (by decide)
  · exact ⟨l7, l8, hh.2⟩
  · exact absurd hh.1 (by decide)
  · exact absurd hh.1 (by decide)
  · exact absurd hh.1 (by decide)
  · exact absurd hh.1 (by decide)
  · exact absurd hh.1 (by decide)
  · exact absurd hh.1 (by decide)
  · exact absurd hh.1 (by decide)
  · exact absurd hh.1 (by decide)
  · exact absurd hh.1 (by decide)
theorem kci_4 (hz9 : kc yz9 Cz9 Rz9 Gz9 pd (4 :: l) fz9 bz9 nfz9 na tz9 en wt) : (pd fz9 = 6 ∧ gr Gz9 fz9 + en ≤ na) ∧ (fz9 + 1 = nfz9 ∧ gi Gz9 fz9 = na) ∧ yK yz9 0 bz9 = 5 ∧ ∃ t', tz9 = t' + 1 ∧ Rz9 22 t' = nI 2 ∧ ve l = false ∧ kc yz9 Cz9 Rz9 Gz9 pd l fz9 (bz9 + 1) nfz9 na t' en wt := by
  obtain ⟨_, _, _, _, h7, h8, hh⟩ := hz9
  have l7 : pd fz9 = 6 ∧ gr Gz9 fz9 + en ≤ na := by rcases h7 with h7 | h7; exact absurd h7 (by decide); exact h7
  have l8 : fz9 + 1 = nfz9 ∧ gi Gz9 fz9 = na := by rcases h8 with h8 | h8; exact absurd h8 (by decide); exact h8
  rcases hh with hh | hh | hh | hh | hh | hh | hh | hh | hh | hh | hh | hh | hh
  · exact absurd hh.1 (by decide)
  · exact absurd hh.1 (by decide)
  · exact absurd hh.1 (by decide)
  · exact absurd hh.1 (by decide)
  · exact ⟨l7, l8, hh.2⟩
  · exact absurd hh.1 (by decide)
  · exact absurd hh.1 (by decide)
  · exact absurd hh.1 (by decide)
  · exact absurd hh.1 (by decide)
  · exact absurd hh.1 (by decide)
  · exact absurd hh.1 (by decide)
  · exact absurd hh.1 (by decide)
  · exact absurd hh.1 (by decide)
theorem kci_5 (hz9 : kc yz9 Cz9 Rz9 Gz9 pd (5 :: l) fz9 bz9 nfz9 na tz9 en wt) : (pd fz9 = 6 ∧ gr Gz9 fz9 + en ≤ na) ∧ (fz9 + 1 = nfz9 ∧ gi Gz9 fz9 = na) ∧ ∃ t' nz9 qz9 zz9 wz9 jz9 b' kz9, tz9 = t' + 1 ∧ nd7 nz9 ∧ Rz9 22 t' = nI (3 + 16 * nz9 + 16384 * fz9) ∧ yK yz9 0 bz9 = 4 ∧ yK yz9 1 bz9 = nI (jz9 + 1) ∧ yR yz9 3 nz9 = nI qz9 ∧ nd7 qz9 ∧ yR yz9 4 qz9 = nI zz9 ∧ yS yz9 (gs Gz9 fz9) kz9 zz9 (bz9 + 1) jz9 ∧ yK yz9 0 jz9 = 3 ∧ yK yz9 1 jz9 = nI b' ∧ yR yz9 4 zz9 = nI wz9 ∧ yS yz9 (gs Gz9 fz9) kz9 wz9 (jz9 + 1) b' ∧ t' + 2 * kz9 + 53 ≤ 90 * (na + en + 1) ∧ nfz9 + kz9 ≤ 11 * (na + 1) ∧ ve l = false ∧ kc yz9 Cz9 Rz9 Gz9 pd l fz9 b' nfz9 na t' en wt := by
  obtain ⟨_, _, _, _, h7, h8, hh⟩ := hz9
  have l7 : pd fz9 = 6 ∧ gr Gz9 fz9 + en ≤ na := by rcases h7 with h7 | h7; exact absurd h7 (by decide); exact h7
  have l8 : fz9 + 1 = nfz9 ∧ gi Gz9 fz9 = na := by rcases h8 with h8 | h8; exact absurd h8 (by decide); exact h8
  rcases hh with hh | hh | hh | hh | hh | hh | hh | hh | hh | hh | hh | hh | hh
  · exact absurd hh.1 (by decide)
  · exact absurd hh.1 (by decide)
  · exact absurd hh.1 (by decide)
  · exact absurd hh.1 (by decide)
  · exact absurd hh.1 (by decide)
  · exact ⟨l7, l8, hh.2⟩
  · exact absurd hh.1 (by decide)
  · exact absurd hh.1 (by decide)
  · exact absurd hh.1 (by decide)
  · exact absurd hh.1 (by decide)
  · exact absurd hh.1 (by decide)
  · exact absurd hh.1 (by decide)
  · exact absurd hh.1 (by decide)
theorem kci_6 (hz9 : kc yz9 Cz9 Rz9 Gz9 pd (6 :: l) fz9 bz9 nfz9 na tz9 en wt) : (pd fz9 = 6 ∧ gr Gz9 fz9 + en ≤ na) ∧ (fz9 + 1 = nfz9 ∧ gi Gz9 fz9 = na) ∧ ∃ t' nz9 jz9 kz9, tz9 = t' + 1 ∧ Rz9 22 t' = nI (4 + 16 * nz9 + 16384 * fz9) ∧ yW yz9 (gs Gz9 fz9) kz9 nz9 bz9 jz9 ∧ t' + 2 * kz9 + 55 ≤ 90 * (na + en + 1) ∧ nfz9 + kz9 ≤ 11 * (na + 1) ∧ ve l = false ∧ kc yz9 Cz9 Rz9 Gz9 pd l fz9 (jz9 + 1) nfz9 na t' en wt := by
  obtain ⟨_, _, _, _, h7, h8, hh⟩ := hz9
  have l7 : pd fz9 = 6 ∧ gr Gz9 fz9 + en ≤ na := by rcases h7 with h7 | h7; exact absurd h7 (by decide); exact h7
  have l8 : fz9 + 1 = nfz9 ∧ gi Gz9 fz9 = na := by rcases h8 with h8 | h8; exact absurd h8 (by decide); exact h8
  rcases hh with hh | hh | hh | hh | hh | hh | hh | hh | hh | hh | hh | hh | hh
  · exact absurd hh.1 (by decide)
  · exact absurd hh.1 (by decide)
  · exact absurd hh.1 (by decide)
  · exact absurd hh.1 (by decide)
  · exact absurd hh.1 (by decide)
  · exact absurd hh.1 (by decide)
  · exact ⟨l7, l8, hh.2⟩
  · exact absurd hh.1 (by decide)
  · exact absurd hh.1 (by decide)
  · exact absurd hh.1 (by decide)
  · exact absurd hh.1 (by decide)
  · exact absurd hh.1 (by decide)
  · exact absurd hh.1 (by decide)
theorem kci_7 (hz9 : kc yz9 Cz9 Rz9 Gz9 pd (7 :: l) fz9 bz9 nfz9 na tz9 en wt) : (fz9 + 1 = nfz9 ∧ gi Gz9 fz9 = na) ∧ ∃ t' na' ca pr cntz9 wz9 iz9 c' nz9 b2 b', tz9 = t' + 1 ∧ na = na' + 1 ∧ yK yz9 0 bz9 = 16 ∧ yK yz9 1 bz9 = nI (iz9 + 1) ∧ pd fz9 = iz9 ∧ wz9.testBit iz9 = true ∧ iz9 < cntz9 ∧ cntz9 ≤ 6 ∧ wz9 < 64 ∧ Rz9 22 t' = nI (12 + 16 * (ga Gz9 fz9 iz9).1 + 16384 * fz9) ∧ pr < yn yz9 ∧ gs Gz9 fz9 = (pr + 1, 0, 0) :: yC yz9 pr ∧ yR yz9 10 (yb yz9 + pr) = nI cntz9 ∧ yR yz9 11 (yb yz9 + pr) = nI wz9 ∧ cx_pl (yK yz9) wz9 (cntz9 - (iz9 + 1)) (iz9 + 1) (bz9 + 1) c' ∧ yR yz9 9 (yb yz9 + pr) = nI nz9 ∧ yS yz9 (gs Gz9 fz9) 10 nz9 c' b2 ∧ yK yz9 0 b2 = 17 ∧ b2 < ye yz9 ∧ Rz9 26 fz9 = nI ca ∧ Cz9 13 na = nI (gi Gz9 ca) ∧ Cz9 14 na = nI b' ∧ gr Gz9 ca + en ≤ na' ∧ kc yz9 Cz9 Rz9 Gz9 pd l ca b' fz9 na' t' en wt := by
  obtain ⟨_, _, _, _, h7, h8, hh⟩ := hz9
  have l8 : fz9 + 1 = nfz9 ∧ gi Gz9 fz9 = na := by rcases h8 with h8 | h8; exact absurd h8 (by decide); exact h8
  rcases hh with hh | hh | hh | hh | hh | hh | hh | hh | hh | hh | hh | hh | hh
  · exact absurd hh.1 (by decide)
  · exact absurd hh.1 (by decide)
  · exact absurd hh.1 (by decide)
  · exact absurd hh.1 (by decide)
  · exact absurd hh.1 (by decide)
  · exact absurd hh.1 (by decide)
  · exact absurd hh.1 (by decide)
  · exact ⟨l8, hh.2⟩
  · exact absurd hh.1 (by decide)
  · exact absurd hh.1 (by decide)
  · exact absurd hh.1 (by decide)
  · exact absurd hh.1 (by decide)
  · exact absurd hh.1 (by decide)
theorem kci_10 (hz9 : kc yz9 Cz9 Rz9 Gz9 pd (10 :: l) fz9 bz9 nfz9 na tz9 en wt) : (pd fz9 = 6 ∧ gr Gz9 fz9 + en ≤ na) ∧ (fz9 + 1 = nfz9 ∧ gi Gz9 fz9 = na) ∧ (∃ pr, gs Gz9 fz9 = (pr + 1, 0, 0) :: yC yz9 pr) ∧ ∃ t' na' ca b', tz9 = t' + 1 ∧ na = na' + 1 ∧ yK yz9 0 bz9 = 17 ∧ Rz9 22 t' = nI (13 + 16384 * fz9) ∧ Cz9 13 na = nI (gi Gz9 ca) ∧ Cz9 14 na = nI b' ∧ kc yz9 Cz9 Rz9 Gz9 pd l ca b' fz9 na' t' en wt := by
  obtain ⟨_, _, _, _, h7, h8, hh⟩ := hz9
  have l7 : pd fz9 = 6 ∧ gr Gz9 fz9 + en ≤ na := by rcases h7 with h7 | h7; exact absurd h7 (by decide); exact h7
  have l8 : fz9 + 1 = nfz9 ∧ gi Gz9 fz9 = na := by rcases h8 with h8 | h8; exact absurd h8 (by decide); exact h8
  rcases hh with hh | hh | hh | hh | hh | hh | hh | hh | hh | hh | hh | hh | hh
  · exact absurd hh.1 (by decide)
  · exact absurd hh.1 (by decide)
  · exact absurd hh.1 (by decide)
  · exact absurd hh.1 (by decide)
  · exact absurd hh.1 (by decide)
  · exact absurd hh.1 (by decide)
  · exact absurd hh.1 (by decide)
  · exact absurd hh.1 (by decide)
  · exact ⟨l7, l8, hh.2⟩
  · exact absurd hh.1 (by decide)
  · exact absurd hh.1 (by decide)
  · exact absurd hh.1 (by decide)
  · exact absurd hh.1 (by decide)
theorem kci_11 (hz9 : kc yz9 Cz9 Rz9 Gz9 pd (11 :: l) fz9 bz9 nfz9 na tz9 en wt) : (pd fz9 = 6 ∧ gr Gz9 fz9 + en ≤ na) ∧ (fz9 + 1 = nfz9 ∧ gi Gz9 fz9 = na) ∧ ∃ t' nz9 b0 kz9, tz9 = t' + 1 ∧ Rz9 22 t' = nI (5 + 16 * nz9 + 16384 * fz9) ∧ yW yz9 (gs Gz9 fz9) kz9 nz9 b0 bz9 ∧ t' + 2 * kz9 + 55 ≤ 90 * (na + en + 1) ∧ nfz9 + kz9 ≤ 11 * (na + 1) ∧ ve l = false ∧ kc yz9 Cz9 Rz9 Gz9 pd l fz9 (bz9 + 1) nfz9 na t' en wt := by
  obtain ⟨_, _, _, _, h7, h8, hh⟩ := hz9
  have l7 : pd fz9 = 6 ∧ gr Gz9 fz9 + en ≤ na := by rcases h7 with h7 | h7; exact absurd h7 (by decide); exact h7
  have l8 : fz9 + 1 = nfz9 ∧ gi Gz9 fz9 = na := by rcases h8 with h8 | h8; exact absurd h8 (by decide); exact h8
  rcases hh with hh | hh | hh | hh | hh | hh | hh | hh | hh | hh | hh | hh | hh
  · exact absurd hh.1 (by decide)
  · exact absurd hh.1 (by decide)
  · exact absurd hh.1 (by decide)
  · exact absurd hh.1 (by decide)
  · exact absurd hh.1 (by decide)
  · exact absurd hh.1 (by decide)
  · exact absurd hh.1 (by decide)
  · exact absurd hh.1 (by decide)
  · exact absurd hh.1 (by decide)
  · exact ⟨l7, l8, hh.2⟩
  · exact absurd hh.1 (by decide)
  · exact absurd hh.1 (by decide)
  · exact absurd hh.1 (by decide)
theorem kci_12 (hz9 : kc yz9 Cz9 Rz9 Gz9 pd (12 :: l) fz9 bz9 nfz9 na tz9 en wt) : (pd fz9 = 6 ∧ gr Gz9 fz9 + en ≤ na) ∧ (fz9 + 1 = nfz9 ∧ gi Gz9 fz9 = na) ∧ ∃ t', tz9 = t' + 1 ∧ 0 < fz9 ∧ Rz9 22 t' = nI (6 + 16384 * fz9) ∧ ve l = false ∧ kc yz9 Cz9 Rz9 Gz9 pd l (fz9 - 1) bz9 fz9 na t' en wt := by
  obtain ⟨_, _, _, _, h7, h8, hh⟩ := hz9
  have l7 : pd fz9 = 6 ∧ gr Gz9 fz9 + en ≤ na := by rcases h7 with h7 | h7; exact absurd h7 (by decide); exact h7
  have l8 : fz9 + 1 = nfz9 ∧ gi Gz9 fz9 = na := by rcases h8 with h8 | h8; exact absurd h8 (by decide); exact h8
  rcases hh with hh | hh | hh | hh | hh | hh | hh | hh | hh | hh | hh | hh | hh
  · exact absurd hh.1 (by decide)
  · exact absurd hh.1 (by decide)
  · exact absurd hh.1 (by decide)
  · exact absurd hh.1 (by decide)
  · exact absurd hh.1 (by decide)
  · exact absurd hh.1 (by decide)
  · exact absurd hh.1 (by decide)
  · exact absurd hh.1 (by decide)
  · exact absurd hh.1 (by decide)
  · exact absurd hh.1 (by decide)
  · exact ⟨l7, l8, hh.2⟩
  · exact absurd hh.1 (by decide)
  · exact absurd hh.1 (by decide)
theorem kci_13 (hz9 : kc yz9 Cz9 Rz9 Gz9 pd (13 :: l) fz9 bz9 nfz9 na tz9 en wt) : (pd fz9 = 6 ∧ gr Gz9 fz9 + en ≤ na) ∧ (fz9 + 1 = nfz9 ∧ gi Gz9 fz9 = na) ∧ ∃ t' xz9 jz9 kz9 b', tz9 = t' + 1 ∧ 0 < xz9 ∧ Rz9 22 t' = nI (7 + 16 * xz9 + 16384 * fz9) ∧ yQ yz9 (gs Gz9 fz9) kz9 jz9 xz9 bz9 b' ∧ t' + 2 * kz9 + 54 ≤ 90 * (na + en + 1) ∧ nfz9 + kz9 ≤ 11 * (na + 1) ∧ ve l = false ∧ kc yz9 Cz9 Rz9 Gz9 pd l fz9 b' nfz9 na t' en wt := by
  obtain ⟨_, _, _, _, h7, h8, hh⟩ := hz9
  have l7 : pd fz9 = 6 ∧ gr Gz9 fz9 + en ≤ na := by rcases h7 with h7 | h7; exact absurd h7 (by decide); exact h7
  have l8 : fz9 + 1 = nfz9 ∧ gi Gz9 fz9 = na := by rcases h8 with h8 | h8; exact absurd h8 (by decide); exact h8
  rcases hh with hh | hh | hh | hh | hh | hh | hh | hh | hh | hh | hh | hh | hh
  · exact absurd hh.1 (by decide)
  · exact absurd hh.1 (by decide)
  · exact absurd hh.1 (by decide)
  · exact absurd hh.1 (by decide)
  · exact absurd hh.1 (by decide)
  · exact absurd hh.1 (by decide)
  · exact absurd hh.1 (by decide)
  · exact absurd hh.1 (by decide)
  · exact absurd hh.1 (by decide)
  · exact absurd hh.1 (by decide)
  · exact absurd hh.1 (by decide)
  · exact ⟨l7, l8, hh.2⟩
  · exact absurd hh.1 (by decide)
theorem kci_14 (hz9 : kc yz9 Cz9 Rz9 Gz9 pd (14 :: l) fz9 bz9 nfz9 na tz9 en wt) : (pd fz9 = 6 ∧ gr Gz9 fz9 + en ≤ na) ∧ (fz9 + 1 = nfz9 ∧ gi Gz9 fz9 = na) ∧ yK yz9 0 bz9 = 3 ∧ ∃ b', yK yz9 1 bz9 = nI b' ∧ ve l = false ∧ kc yz9 Cz9 Rz9 Gz9 pd l fz9 b' nfz9 na tz9 en wt := by
  obtain ⟨_, _, _, _, h7, h8, hh⟩ := hz9
  have l7 : pd fz9 = 6 ∧ gr Gz9 fz9 + en ≤ na := by rcases h7 with h7 | h7; exact absurd h7 (by decide); exact h7
  have l8 : fz9 + 1 = nfz9 ∧ gi Gz9 fz9 = na := by rcases h8 with h8 | h8; exact absurd h8 (by decide); exact h8
  rcases hh with hh | hh | hh | hh | hh | hh | hh | hh | hh | hh | hh | hh | hh
  · exact absurd hh.1 (by decide)
  · exact absurd hh.1 (by decide)
  · exact absurd hh.1 (by decide)
  · exact absurd hh.1 (by decide)
  · exact absurd hh.1 (by decide)
  · exact absurd hh.1 (by decide)
  · exact absurd hh.1 (by decide)
  · exact absurd hh.1 (by decide)
  · exact absurd hh.1 (by decide)
  · exact absurd hh.1 (by decide)
  · exact absurd hh.1 (by decide)
  · exact absurd hh.1 (by decide)
  · exact ⟨l7, l8, hh.2⟩
end KCI
