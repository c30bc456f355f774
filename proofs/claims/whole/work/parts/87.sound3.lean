/-! ===== words, classes; fields, arrays, new cells (written by wip/whole/gen/gensound3.py) ===== -/
def refL : List (String × Nat × String) := [("CoinTelescope$Table", 15, "CoinTelescope$Table"), ("CoinTelescope$Table", 21, "CoinTelescope$Table"), ("CoinTelescope$Table", 24, "CoinTelescope$Table"), ("CoinTelescope$Table", 28, "CoinTelescope$Table"), ("CoinTelescope$View", 9, "CoinTelescope$View"), ("CoinTelescope", 153, "CoinTelescope$View"), ("CoinTelescope$View", 15, "CoinTelescope$View"), ("CoinTelescope", 156, "CoinTelescope$View"), ("CoinTelescope$View", 18, "CoinTelescope$View"), ("CoinTelescope", 126, "CoinTelescope$View"), ("CoinTelescope$Search", 107, "CoinTelescope$View"), ("CoinTelescope$View", 21, "CoinTelescope$View"), ("CoinTelescope$View", 25, "CoinTelescope$View"), ("CoinTelescope$View", 28, "CoinTelescope$View"), ("CoinTelescope$View", 31, "CoinTelescope$View"), ("CoinTelescope$View", 34, "CoinTelescope$View"), ("CoinTelescope$View", 37, "CoinTelescope$View"), ("CoinTelescope$View", 40, "CoinTelescope$View"), ("CoinTelescope$State", 14, "CoinTelescope$State"), ("CoinTelescope", 47, "CoinTelescope$State"), ("CoinTelescope$State", 23, "CoinTelescope$State"), ("CoinTelescope", 77, "CoinTelescope$State"), ("CoinTelescope$Search", 103, "CoinTelescope$State"), ("CoinTelescope", 58, "CoinTelescope$State"), ("CoinTelescope$State", 117, "CoinTelescope$State"), ("CoinTelescope$State", 52, "CoinTelescope$State"), ("CoinTelescope$Search", 40, "CoinTelescope$State"), ("CoinTelescope", 85, "CoinTelescope$State"), ("CoinTelescope$State", 29, "CoinTelescope$State"), ("CoinTelescope$State", 33, "CoinTelescope$State"), ("CoinTelescope$State", 37, "CoinTelescope$State"), ("CoinTelescope$Search", 82, "CoinTelescope$State"), ("CoinTelescope$State", 68, "CoinTelescope$State"), ("CoinTelescope", 147, "CoinTelescope$State"), ("CoinTelescope$Search", 54, "CoinTelescope$State"), ("CoinTelescope", 120, "CoinTelescope$State"), ("CoinTelescope$State", 107, "CoinTelescope$State"), ("CoinTelescope$Search", 118, "CoinTelescope$State"), ("CoinTelescope", 150, "CoinTelescope$State"), ("CoinTelescope$State", 124, "CoinTelescope$State"), ("CoinTelescope$State", 84, "CoinTelescope$State"), ("CoinTelescope", 159, "CoinTelescope$State"), ("CoinTelescope", 162, "CoinTelescope$State"), ("CoinTelescope$State", 127, "CoinTelescope$State"), ("CoinTelescope", 165, "CoinTelescope$State"), ("CoinTelescope$State", 130, "CoinTelescope$State"), ("CoinTelescope$State", 40, "CoinTelescope$State"), ("CoinTelescope", 207, "CoinTelescope$State"), ("CoinTelescope$State", 43, "CoinTelescope$State"), ("CoinTelescope", 220, "CoinTelescope$State"), ("CoinTelescope$State", 46, "CoinTelescope$State"), ("CoinTelescope", 229, "CoinTelescope$State"), ("CoinTelescope$State", 49, "CoinTelescope$State"), ("CoinTelescope$Search", 9, "CoinTelescope$Search"), ("CoinTelescope$Search", 15, "CoinTelescope$Search"), ("CoinTelescope$Search", 19, "CoinTelescope$Search"), ("CoinTelescope$Search", 22, "CoinTelescope$Search"), ("CoinTelescope$Search", 25, "CoinTelescope$Search"), ("CoinTelescope$Search", 79, "CoinTelescope$Search"), ("CoinTelescope$Search", 28, "CoinTelescope$Search"), ("CoinTelescope$Search", 31, "CoinTelescope$Search"), ("CoinTelescope$Search", 115, "CoinTelescope$Search"), ("CoinTelescope$Search", 112, "CoinTelescope$Search"), ("CoinTelescope", 12, "CoinTelescope"), ("CoinTelescope", 18, "CoinTelescope"), ("CoinTelescope", 26, "CoinTelescope"), ("CoinTelescope", 35, "CoinTelescope"), ("CoinTelescope", 39, "CoinTelescope"), ("java/lang/String", 38, "java/lang/String"), ("java/lang/String", 1053, "jdk/internal/util/Preconditions"), ("java/lang/StringUTF16", 44, "java/lang/StringUTF16"), ("java/lang/StringUTF16", 59, "java/lang/StringUTF16"), ("java/lang/StringUTF16", 63, "java/lang/StringUTF16"), ("CoinTelescope$Thing", 7, "CoinTelescope$Thing"), ("CoinTelescope", 100, "CoinTelescope$Thing"), ("CoinTelescope$State", 81, "CoinTelescope$Thing"), ("CoinTelescope$Thing", 13, "CoinTelescope$Thing"), ("CoinTelescope$Spire", 31, "CoinTelescope$Spire"), ("CoinTelescope$State", 71, "CoinTelescope$Thing"), ("CoinTelescope$Thing", 16, "CoinTelescope$Thing"), ("CoinTelescope$Bird", 9, "CoinTelescope$Bird"), ("CoinTelescope$Spire", 11, "CoinTelescope$Spire"), ("CoinTelescope$Told", 33, "CoinTelescope$Told"), ("CoinTelescope", 105, "CoinTelescope$Thing"), ("CoinTelescope$State", 74, "CoinTelescope$Thing"), ("CoinTelescope$Thing", 19, "CoinTelescope$Thing"), ("CoinTelescope$House", 11, "CoinTelescope$House"), ("CoinTelescope$Boat", 9, "CoinTelescope$Boat"), ("CoinTelescope$Spire", 17, "CoinTelescope$Spire"), ("CoinTelescope$Told", 17, "CoinTelescope$Told"), ("CoinTelescope$Bird", 15, "CoinTelescope$Bird"), ("CoinTelescope$Ship", 21, "CoinTelescope$Ship"), ("CoinTelescopeModel", 9, "CoinTelescopeModel"), ("CoinTelescopeModel", 15, "CoinTelescopeModel"), ("CoinTelescopeModel", 18, "CoinTelescopeModel"), ("CoinTelescopeModel", 262, "CoinTelescopeModel"), ("CoinTelescopeModel", 53, "CoinTelescopeModel"), ("CoinTelescopeModel", 83, "CoinTelescopeModel"), ("CoinTelescopeModel", 56, "CoinTelescopeModel"), ("CoinTelescopeModel", 59, "CoinTelescopeModel"), ("CoinTelescopeModel", 62, "CoinTelescopeModel"), ("CoinTelescopeModel", 86, "CoinTelescopeModel"), ("CoinTelescopeModel", 21, "CoinTelescopeModel"), ("CoinTelescopeModel", 24, "CoinTelescopeModel"), ("CoinTelescopeModel", 194, "CoinTelescopeModel"), ("CoinTelescopeModel", 185, "CoinTelescopeModel"), ("CoinTelescopeModel", 28, "CoinTelescopeModel"), ("CoinTelescopeModel", 31, "CoinTelescopeModel"), ("CoinTelescopeModel", 208, "CoinTelescopeModel"), ("CoinTelescopeModel", 34, "CoinTelescopeModel"), ("CoinTelescopeModel", 226, "CoinTelescopeModel"), ("CoinTelescopeModel", 235, "CoinTelescopeModel"), ("CoinTelescopeModel", 232, "CoinTelescopeModel"), ("CoinTelescopeModel", 247, "CoinTelescopeModel"), ("java/lang/String", 9, "java/lang/String"), ("java/lang/String", 15, "java/lang/String")]
def mrL : List (String × Nat × MethodName) := [("CoinTelescopeLaw", 9, ⟨"CoinTelescope", "<init>", "()V"⟩), ("CoinTelescope", 3, ⟨"java/lang/Object", "<init>", "()V"⟩), ("CoinTelescope", 11, ⟨"CoinTelescope$State", "<init>", "()V"⟩), ("CoinTelescope$State", 3, ⟨"java/lang/Object", "<init>", "()V"⟩), ("CoinTelescope$State", 11, ⟨"CoinTelescope$Table", "<init>", "(II)V"⟩), ("CoinTelescope$Table", 3, ⟨"java/lang/Object", "<init>", "()V"⟩), ("CoinTelescope$Table", 9, ⟨"java/lang/Math", "max", "(II)I"⟩), ("CoinTelescope$State", 22, ⟨"CoinTelescope$View", "<init>", "()V"⟩), ("CoinTelescope$View", 3, ⟨"java/lang/Object", "<init>", "()V"⟩), ("CoinTelescope", 23, ⟨"CoinTelescope$Table", "<init>", "(II)V"⟩), ("CoinTelescope", 32, ⟨"CoinTelescope$Search", "<init>", "(LCoinTelescope$State;)V"⟩), ("CoinTelescope$Search", 3, ⟨"java/lang/Object", "<init>", "()V"⟩), ("CoinTelescopeLaw", 13, ⟨"CoinTelescope", "feed", "(I)I"⟩), ("CoinTelescope", 43, ⟨"CoinTelescope", "within", "(III)Z"⟩), ("CoinTelescope", 50, ⟨"CoinTelescope$Table", "isFull", "()Z"⟩), ("CoinTelescope", 54, ⟨"CoinTelescope$Table", "add", "(III)I"⟩), ("CoinTelescopeLaw", 18, ⟨"CoinTelescope", "view", "()I"⟩), ("CoinTelescope", 64, ⟨"CoinTelescope$View", "<init>", "()V"⟩), ("CoinTelescope", 65, ⟨"CoinTelescope$Table", "firstColumn", "()[I"⟩), ("CoinTelescope$Table", 31, ⟨"java/lang/Math", "min", "(II)I"⟩), ("CoinTelescope$Table", 34, ⟨"CoinTelescope$Table", "get", "(II)I"⟩), ("CoinTelescope", 69, ⟨"CoinTelescope$View", "readFrom", "([I)I"⟩), ("CoinTelescope$View", 43, ⟨"CoinTelescope$View", "readClause", "()Z"⟩), ("CoinTelescope$View", 55, ⟨"CoinTelescope$View", "readWord", "()I"⟩), ("CoinTelescope$View", 75, ⟨"CoinTelescope$View", "sameSigns", "(I)I"⟩), ("CoinTelescope$View", 81, ⟨"java/lang/String", "length", "()I"⟩), ("java/lang/String", 335, ⟨"java/lang/String", "coder", "()B"⟩), ("CoinTelescope$View", 86, ⟨"java/lang/String", "charAt", "(I)C"⟩), ("java/lang/String", 492, ⟨"java/lang/String", "isLatin1", "()Z"⟩), ("java/lang/String", 495, ⟨"java/lang/StringLatin1", "charAt", "([BI)C"⟩), ("java/lang/StringLatin1", 9, ⟨"java/lang/String", "checkIndex", "(II)V"⟩), ("java/lang/String", 1059, ⟨"jdk/internal/util/Preconditions", "checkIndex", "(IILjava/util/function/BiFunction;)I"⟩), ("java/lang/String", 498, ⟨"java/lang/StringUTF16", "charAt", "([BI)C"⟩), ("java/lang/StringUTF16", 67, ⟨"java/lang/StringUTF16", "checkIndex", "(I[B)V"⟩), ("java/lang/StringUTF16", 48, ⟨"java/lang/StringUTF16", "length", "([B)I"⟩), ("java/lang/StringUTF16", 414, ⟨"java/lang/String", "checkIndex", "(II)V"⟩), ("java/lang/StringUTF16", 71, ⟨"java/lang/StringUTF16", "getChar", "([BI)C"⟩), ("CoinTelescope$View", 61, ⟨"java/lang/Math", "max", "(II)I"⟩), ("CoinTelescope$View", 47, ⟨"CoinTelescope$View", "take", "(C)Z"⟩), ("CoinTelescope$View", 51, ⟨"CoinTelescope$View", "next", "()I"⟩), ("CoinTelescope$View", 58, ⟨"CoinTelescope$View", "readNumber", "()I"⟩), ("CoinTelescope$View", 67, ⟨"CoinTelescope$View", "readJoined", "(II)Z"⟩), ("CoinTelescope$View", 90, ⟨"CoinTelescope$View", "readOne", "(I)Z"⟩), ("CoinTelescope$View", 97, ⟨"CoinTelescope$View", "readTest", "()Z"⟩), ("CoinTelescope$View", 102, ⟨"CoinTelescope$View", "readPlaceIn", "(Ljava/lang/String;)I"⟩), ("CoinTelescope$View", 108, ⟨"java/lang/String", "indexOf", "(I)I"⟩), ("java/lang/String", 633, ⟨"java/lang/String", "indexOf", "(II)I"⟩), ("java/lang/String", 505, ⟨"java/lang/String", "length", "()I"⟩), ("java/lang/String", 637, ⟨"java/lang/StringLatin1", "indexOf", "([BIII)I"⟩), ("java/lang/StringLatin1", 88, ⟨"java/lang/StringLatin1", "canEncode", "(I)Z"⟩), ("java/lang/StringLatin1", 92, ⟨"java/lang/Math", "max", "(II)I"⟩), ("java/lang/StringLatin1", 38, ⟨"java/lang/Math", "min", "(II)I"⟩), ("java/lang/StringLatin1", 95, ⟨"java/lang/StringLatin1", "indexOfChar", "([BIII)I"⟩), ("java/lang/String", 640, ⟨"java/lang/StringUTF16", "indexOf", "([BIII)I"⟩), ("java/lang/StringUTF16", 224, ⟨"java/lang/Math", "max", "(II)I"⟩), ("java/lang/StringUTF16", 183, ⟨"java/lang/Math", "min", "(II)I"⟩), ("java/lang/StringUTF16", 228, ⟨"java/lang/StringUTF16", "indexOfChar", "([BIII)I"⟩), ("java/lang/StringUTF16", 96, ⟨"java/lang/StringUTF16", "checkBoundsBeginEnd", "(II[B)V"⟩), ("java/lang/StringUTF16", 241, ⟨"java/lang/String", "checkBoundsBeginEnd", "(III)V"⟩), ("java/lang/String", 1062, ⟨"jdk/internal/util/Preconditions", "checkFromToIndex", "(IIILjava/util/function/BiFunction;)I"⟩), ("java/lang/StringUTF16", 244, ⟨"java/lang/StringUTF16", "indexOfCharUnsafe", "([BIII)I"⟩), ("java/lang/StringUTF16", 232, ⟨"java/lang/StringUTF16", "indexOfSupplementary", "([BIII)I"⟩), ("java/lang/StringUTF16", 164, ⟨"java/lang/Character", "isValidCodePoint", "(I)Z"⟩), ("java/lang/StringUTF16", 157, ⟨"java/lang/Character", "highSurrogate", "(I)C"⟩), ("java/lang/StringUTF16", 161, ⟨"java/lang/Character", "lowSurrogate", "(I)C"⟩), ("CoinTelescope$View", 94, ⟨"CoinTelescope$View", "emit", "(I)V"⟩), ("CoinTelescope$View", 71, ⟨"CoinTelescope$View", "keepCondition", "(I)V"⟩), ("CoinTelescope", 73, ⟨"CoinTelescope$Table", "clear", "()I"⟩), ("CoinTelescopeLaw", 23, ⟨"CoinTelescope", "thing", "(III)I"⟩), ("CoinTelescope", 81, ⟨"CoinTelescope", "isCell", "(I)Z"⟩), ("CoinTelescope", 88, ⟨"CoinTelescope", "newThing", "(III)LCoinTelescope$Thing;"⟩), ("CoinTelescope", 275, ⟨"CoinTelescope$Boat", "<init>", "(IIILCoinTelescope$Table;)V"⟩), ("CoinTelescope$Boat", 3, ⟨"CoinTelescope$Thing", "<init>", "(IIILCoinTelescope$Table;)V"⟩), ("CoinTelescope$Thing", 1, ⟨"java/lang/Object", "<init>", "()V"⟩), ("CoinTelescope", 278, ⟨"CoinTelescope$House", "<init>", "(IIILCoinTelescope$Table;)V"⟩), ("CoinTelescope$House", 1, ⟨"CoinTelescope$Thing", "<init>", "(IIILCoinTelescope$Table;)V"⟩), ("CoinTelescope", 279, ⟨"CoinTelescope$Bird", "<init>", "(IIILCoinTelescope$Table;)V"⟩), ("CoinTelescope$Bird", 3, ⟨"CoinTelescope$Thing", "<init>", "(IIILCoinTelescope$Table;)V"⟩), ("CoinTelescope", 280, ⟨"CoinTelescope$Ship", "<init>", "(IIILCoinTelescope$Table;)V"⟩), ("CoinTelescope$Ship", 1, ⟨"CoinTelescope$Boat", "<init>", "(IIILCoinTelescope$Table;)V"⟩), ("CoinTelescope", 281, ⟨"CoinTelescope$Spire", "<init>", "(IIILCoinTelescope$Table;)V"⟩), ("CoinTelescope$Spire", 1, ⟨"CoinTelescope$House", "<init>", "(IIILCoinTelescope$Table;)V"⟩), ("CoinTelescope", 282, ⟨"CoinTelescope$Told", "<init>", "(IIILCoinTelescope$Table;)V"⟩), ("CoinTelescope$Told", 3, ⟨"CoinTelescope$Bird", "<init>", "(IIILCoinTelescope$Table;)V"⟩), ("CoinTelescope", 283, ⟨"CoinTelescope$Thing", "<init>", "(IIILCoinTelescope$Table;)V"⟩), ("CoinTelescope", 92, ⟨"CoinTelescope$State", "put", "(LCoinTelescope$Thing;I)I"⟩), ("CoinTelescopeLaw", 28, ⟨"CoinTelescope", "of", "(II)I"⟩), ("CoinTelescope", 96, ⟨"CoinTelescope$State", "find", "(I)LCoinTelescope$Thing;"⟩), ("CoinTelescope", 108, ⟨"CoinTelescope$State", "homeOf", "(I)I"⟩), ("CoinTelescope", 112, ⟨"CoinTelescope$State", "isHad", "(I)Z"⟩), ("CoinTelescope", 115, ⟨"CoinTelescope", "bit", "(Z)I"⟩), ("CoinTelescopeLaw", 33, ⟨"CoinTelescope", "then", "(III)I"⟩), ("CoinTelescope", 123, ⟨"CoinTelescope$State", "cellOn", "(LCoinTelescope$Thing;I)I"⟩), ("CoinTelescope$State", 60, ⟨"CoinTelescope$State", "homeOf", "(I)I"⟩), ("CoinTelescope$State", 64, ⟨"CoinTelescope$State", "rowNumber", "(II)I"⟩), ("CoinTelescope$State", 77, ⟨"CoinTelescope$Thing", "placeOn", "(IIII)I"⟩), ("CoinTelescope$Ship", 7, ⟨"CoinTelescope$Boat", "placeOn", "(IIII)I"⟩), ("CoinTelescope$Told", 9, ⟨"CoinTelescope$Bird", "placeOn", "(IIII)I"⟩), ("CoinTelescope", 129, ⟨"CoinTelescope$Thing", "isDim", "(II)Z"⟩), ("CoinTelescope", 133, ⟨"CoinTelescope$State", "baseOn", "(LCoinTelescope$Thing;II)I"⟩), ("CoinTelescope$State", 87, ⟨"CoinTelescope$View", "baseBy", "([I)I"⟩), ("CoinTelescope$View", 115, ⟨"CoinTelescope$View", "holds", "(II[I)Z"⟩), ("CoinTelescope$View", 119, ⟨"CoinTelescope$View", "testHolds", "(I[I)Z"⟩), ("CoinTelescope", 137, ⟨"CoinTelescope$State", "worthOn", "(LCoinTelescope$Thing;II)I"⟩), ("CoinTelescope$State", 91, ⟨"CoinTelescope$State", "baseOn", "(LCoinTelescope$Thing;II)I"⟩), ("CoinTelescope$State", 95, ⟨"CoinTelescope$Thing", "worthBy", "(II)I"⟩), ("CoinTelescope$House", 7, ⟨"CoinTelescope$Thing", "worthBy", "(II)I"⟩), ("CoinTelescope$Ship", 11, ⟨"CoinTelescope$Boat", "worthBy", "(II)I"⟩), ("CoinTelescope$Spire", 7, ⟨"CoinTelescope$House", "worthBy", "(II)I"⟩), ("CoinTelescope$Told", 13, ⟨"CoinTelescope$Bird", "worthBy", "(II)I"⟩), ("CoinTelescope$State", 98, ⟨"java/lang/Math", "max", "(II)I"⟩), ("CoinTelescopeLaw", 37, ⟨"CoinTelescope", "row", "(III)I"⟩), ("CoinTelescope", 140, ⟨"CoinTelescope$State", "changeRow", "(III)I"⟩), ("CoinTelescopeLaw", 41, ⟨"CoinTelescope", "move", "(II)I"⟩), ("CoinTelescope", 143, ⟨"CoinTelescope$State", "changeHome", "(II)I"⟩), ("CoinTelescopeLaw", 45, ⟨"CoinTelescope", "had", "(IZ)I"⟩), ("CoinTelescopeLaw", 50, ⟨"CoinTelescope", "point", "(I)I"⟩), ("CoinTelescopeLaw", 54, ⟨"CoinTelescope", "told", "(I)I"⟩), ("CoinTelescope", 168, ⟨"CoinTelescope", "lostByACoin", "()I"⟩), ("CoinTelescope", 189, ⟨"java/lang/Math", "max", "(II)I"⟩), ("CoinTelescopeLaw", 58, ⟨"CoinTelescope", "pay", "()I"⟩), ("CoinTelescope", 171, ⟨"java/lang/Math", "min", "(II)I"⟩), ("CoinTelescopeLaw", 62, ⟨"CoinTelescope", "tick", "(I)I"⟩), ("CoinTelescope", 176, ⟨"CoinTelescope$Search", "foresee", "(II)V"⟩), ("CoinTelescope$Search", 34, ⟨"java/util/Arrays", "fill", "([II)V"⟩), ("CoinTelescope$Search", 46, ⟨"CoinTelescope$State", "find", "(I)LCoinTelescope$Thing;"⟩), ("CoinTelescope$Search", 50, ⟨"CoinTelescope$State", "isHad", "(I)Z"⟩), ("CoinTelescope$Search", 57, ⟨"CoinTelescope$State", "cellOn", "(LCoinTelescope$Thing;I)I"⟩), ("CoinTelescope$Search", 61, ⟨"CoinTelescope$Thing", "isDim", "(II)Z"⟩), ("CoinTelescope$Search", 71, ⟨"CoinTelescope$State", "worthOn", "(LCoinTelescope$Thing;II)I"⟩), ("CoinTelescope", 179, ⟨"CoinTelescope", "moved", "(II)I"⟩), ("CoinTelescope", 254, ⟨"CoinTelescope", "rowOf", "(I)I"⟩), ("CoinTelescope", 260, ⟨"CoinTelescope", "columnOf", "(I)I"⟩), ("CoinTelescope", 182, ⟨"CoinTelescope$Search", "gainAt", "(III)I"⟩), ("CoinTelescope$Search", 75, ⟨"CoinTelescope$Search", "seenAt", "(II)I"⟩), ("CoinTelescope", 185, ⟨"CoinTelescope$Search", "seenAt", "(II)I"⟩), ("CoinTelescopeLaw", 66, ⟨"CoinTelescope", "pass", "(I)I"⟩), ("CoinTelescopeLaw", 70, ⟨"CoinTelescope", "look", "(II)I"⟩), ("CoinTelescope", 192, ⟨"CoinTelescope$Search", "mostFrom", "(II)I"⟩), ("CoinTelescope$Search", 85, ⟨"CoinTelescope$Search", "tryDoings", "(IIIII)V"⟩), ("CoinTelescope", 248, ⟨"java/lang/System", "arraycopy", "(Ljava/lang/Object;ILjava/lang/Object;II)V"⟩), ("CoinTelescope$Search", 96, ⟨"CoinTelescope$Search", "gainAt", "(III)I"⟩), ("CoinTelescope", 195, ⟨"CoinTelescope$Search", "bestDoing", "(I)I"⟩), ("CoinTelescopeLaw", 74, ⟨"CoinTelescope", "aim", "(II)I"⟩), ("CoinTelescopeLaw", 78, ⟨"CoinTelescope", "soon", "(I)I"⟩), ("CoinTelescope", 198, ⟨"CoinTelescope$Search", "soonFrom", "(LCoinTelescope$Thing;II)I"⟩), ("CoinTelescope", 257, ⟨"java/lang/Math", "abs", "(I)I"⟩), ("CoinTelescopeLaw", 82, ⟨"CoinTelescope", "order", "(I)I"⟩), ("CoinTelescope", 201, ⟨"CoinTelescope$Search", "fewestTicks", "()I"⟩), ("CoinTelescope$Search", 121, ⟨"CoinTelescope$Search", "tryThings", "(IIII)V"⟩), ("CoinTelescope$Search", 125, ⟨"CoinTelescope$Search", "soonFrom", "(LCoinTelescope$Thing;II)I"⟩), ("CoinTelescope", 204, ⟨"CoinTelescope$Search", "bestThing", "(I)I"⟩), ("CoinTelescopeLaw", 86, ⟨"CoinTelescope", "stood", "(III)I"⟩), ("CoinTelescopeLaw", 90, ⟨"CoinTelescope", "from", "(I)I"⟩), ("CoinTelescope", 210, ⟨"CoinTelescope$State", "stoodIsSo", "(LCoinTelescope$Thing;II)Z"⟩), ("CoinTelescope$State", 103, ⟨"CoinTelescope$Table", "size", "()I"⟩), ("CoinTelescope$State", 110, ⟨"CoinTelescope$Table", "get", "(II)I"⟩), ("CoinTelescopeLaw", 94, ⟨"CoinTelescope", "firm", "(II)I"⟩), ("CoinTelescopeLaw", 98, ⟨"CoinTelescope", "odds", "(III)J"⟩), ("CoinTelescope", 216, ⟨"CoinTelescope", "partOf", "(III)J"⟩), ("CoinTelescopeLaw", 103, ⟨"CoinTelescope", "mean", "(I)J"⟩), ("CoinTelescopeLaw", 108, ⟨"CoinTelescope", "plan", "(I)I"⟩), ("CoinTelescopeLaw", 112, ⟨"CoinTelescope", "done", "(I)I"⟩), ("CoinTelescope", 223, ⟨"CoinTelescope$Table", "size", "()I"⟩), ("CoinTelescope", 226, ⟨"CoinTelescope$Table", "get", "(II)I"⟩), ("CoinTelescopeLaw", 116, ⟨"CoinTelescope", "book", "(II)I"⟩), ("CoinTelescopeLaw", 120, ⟨"CoinTelescope", "looked", "()I"⟩), ("CoinTelescopeLaw", 124, ⟨"CoinTelescope", "act", "(III)I"⟩), ("CoinTelescope", 232, ⟨"CoinTelescope$Thing", "shows", "(I)I"⟩), ("CoinTelescope$Boat", 15, ⟨"CoinTelescope$Table", "add", "(III)I"⟩), ("CoinTelescope$Boat", 21, ⟨"CoinTelescope$Thing", "shows", "(I)I"⟩), ("CoinTelescope$Spire", 21, ⟨"CoinTelescope$Table", "add", "(III)I"⟩), ("CoinTelescope$Spire", 27, ⟨"CoinTelescope$House", "shows", "(I)I"⟩), ("CoinTelescope$Thing", 29, ⟨"CoinTelescope$Table", "add", "(III)I"⟩), ("CoinTelescope", 235, ⟨"CoinTelescope$Thing", "shakes", "(I)I"⟩), ("CoinTelescope$House", 17, ⟨"CoinTelescope$Table", "add", "(III)I"⟩), ("CoinTelescope$House", 23, ⟨"CoinTelescope$Thing", "shakes", "(I)I"⟩), ("CoinTelescope$Told", 23, ⟨"CoinTelescope$Table", "add", "(III)I"⟩), ("CoinTelescope$Told", 29, ⟨"CoinTelescope$Bird", "shakes", "(I)I"⟩), ("CoinTelescope$Thing", 35, ⟨"CoinTelescope$Thing", "shows", "(I)I"⟩), ("CoinTelescope", 238, ⟨"CoinTelescope$Thing", "tells", "(I)I"⟩), ("CoinTelescope$Bird", 19, ⟨"CoinTelescope$Table", "add", "(III)I"⟩), ("CoinTelescope$Bird", 25, ⟨"CoinTelescope$Thing", "tells", "(I)I"⟩), ("CoinTelescope$Ship", 27, ⟨"CoinTelescope$Table", "add", "(III)I"⟩), ("CoinTelescope$Ship", 33, ⟨"CoinTelescope$Boat", "tells", "(I)I"⟩), ("CoinTelescope$Ship", 36, ⟨"CoinTelescope$Ship", "shows", "(I)I"⟩), ("CoinTelescope$Thing", 38, ⟨"CoinTelescope$Thing", "shakes", "(I)I"⟩), ("CoinTelescopeLaw", 128, ⟨"CoinTelescope", "trace", "(I)I"⟩), ("CoinTelescopeLaw", 132, ⟨"CoinTelescope", "as", "(II)I"⟩), ("CoinTelescope", 241, ⟨"CoinTelescope", "isOfKind", "(LCoinTelescope$Thing;I)Z"⟩), ("CoinTelescopeLaw", 136, ⟨"CoinTelescope", "image", "()I"⟩), ("CoinTelescope", 245, ⟨"CoinTelescope$State", "becomeAs", "(LCoinTelescope$State;)V"⟩), ("CoinTelescope$State", 113, ⟨"CoinTelescope$Table", "becomeAs", "(LCoinTelescope$Table;)V"⟩), ("CoinTelescopeLaw", 140, ⟨"CoinTelescope", "undo", "()I"⟩), ("CoinTelescopeLaw", 144, ⟨"CoinTelescope", "count", "(I)I"⟩), ("CoinTelescopeLaw", 12, ⟨"CoinTelescopeModel", "<init>", "()V"⟩), ("CoinTelescopeModel", 3, ⟨"java/lang/Object", "<init>", "()V"⟩), ("CoinTelescopeLaw", 17, ⟨"CoinTelescopeModel", "feed", "(I)I"⟩), ("CoinTelescopeModel", 41, ⟨"CoinTelescopeModel", "in", "(III)Z"⟩), ("CoinTelescopeLaw", 22, ⟨"CoinTelescopeModel", "view", "()I"⟩), ("CoinTelescopeModel", 136, ⟨"CoinTelescopeModel", "clauseHere", "()V"⟩), ("CoinTelescopeModel", 66, ⟨"CoinTelescopeModel", "here", "()I"⟩), ("CoinTelescopeModel", 126, ⟨"CoinTelescopeModel", "tellsHere", "(ILjava/lang/String;)V"⟩), ("CoinTelescopeModel", 112, ⟨"CoinTelescopeModel", "spells", "(Ljava/lang/String;)V"⟩), ("CoinTelescopeModel", 70, ⟨"java/lang/String", "length", "()I"⟩), ("CoinTelescopeModel", 75, ⟨"java/lang/String", "charAt", "(I)C"⟩), ("CoinTelescopeModel", 79, ⟨"CoinTelescopeModel", "must", "(I)V"⟩), ("CoinTelescopeModel", 106, ⟨"CoinTelescopeModel", "figures", "()I"⟩), ("CoinTelescopeModel", 133, ⟨"CoinTelescopeModel", "wordOfD", "()V"⟩), ("CoinTelescopeModel", 118, ⟨"CoinTelescopeModel", "much", "(ILjava/lang/String;)V"⟩), ("CoinTelescopeModel", 95, ⟨"CoinTelescopeModel", "some", "()V"⟩), ("CoinTelescopeModel", 109, ⟨"CoinTelescopeModel", "every", "()V"⟩), ("CoinTelescopeModel", 89, ⟨"CoinTelescopeModel", "factor", "()V"⟩), ("CoinTelescopeModel", 92, ⟨"CoinTelescopeModel", "emits", "(I)V"⟩), ("CoinTelescopeModel", 100, ⟨"CoinTelescopeModel", "among", "(Ljava/lang/String;)I"⟩), ("CoinTelescopeLaw", 27, ⟨"CoinTelescopeModel", "thing", "(III)I"⟩), ("CoinTelescopeModel", 145, ⟨"CoinTelescopeModel", "isCell", "(I)Z"⟩), ("CoinTelescopeLaw", 32, ⟨"CoinTelescopeModel", "of", "(II)I"⟩), ("CoinTelescopeModel", 149, ⟨"CoinTelescopeModel", "isThing", "(I)Z"⟩), ("CoinTelescopeLaw", 36, ⟨"CoinTelescopeModel", "then", "(III)I"⟩), ("CoinTelescopeModel", 153, ⟨"CoinTelescopeModel", "asItIs", "()V"⟩), ("CoinTelescopeModel", 49, ⟨"CoinTelescopeModel", "tellsOf", "(II)I"⟩), ("CoinTelescopeModel", 139, ⟨"CoinTelescopeModel", "isAt", "(II)I"⟩), ("CoinTelescopeModel", 156, ⟨"CoinTelescopeModel", "isDim", "(II)Z"⟩), ("CoinTelescopeModel", 142, ⟨"CoinTelescopeModel", "baseOf", "(II)I"⟩), ("CoinTelescopeModel", 160, ⟨"CoinTelescopeModel", "worthOf", "(II)I"⟩), ("CoinTelescopeLaw", 40, ⟨"CoinTelescopeModel", "row", "(III)I"⟩), ("CoinTelescopeModel", 163, ⟨"CoinTelescopeModel", "becomes", "(II)I"⟩), ("CoinTelescopeLaw", 44, ⟨"CoinTelescopeModel", "move", "(II)I"⟩), ("CoinTelescopeLaw", 49, ⟨"CoinTelescopeModel", "had", "(IZ)I"⟩), ("CoinTelescopeLaw", 53, ⟨"CoinTelescopeModel", "point", "(I)I"⟩), ("CoinTelescopeLaw", 57, ⟨"CoinTelescopeModel", "told", "(I)I"⟩), ("CoinTelescopeModel", 166, ⟨"CoinTelescopeModel", "coin", "()I"⟩), ("CoinTelescopeModel", 169, ⟨"CoinTelescopeModel", "hadOnes", "()I"⟩), ("CoinTelescopeModel", 172, ⟨"CoinTelescopeModel", "lost", "()I"⟩), ("CoinTelescopeLaw", 61, ⟨"CoinTelescopeModel", "pay", "()I"⟩), ("CoinTelescopeLaw", 65, ⟨"CoinTelescopeModel", "tick", "(I)I"⟩), ("CoinTelescopeModel", 178, ⟨"CoinTelescopeModel", "goes", "(I)I"⟩), ("CoinTelescopeModel", 175, ⟨"CoinTelescopeModel", "brought", "(II)I"⟩), ("CoinTelescopeLaw", 69, ⟨"CoinTelescopeModel", "pass", "(I)I"⟩), ("CoinTelescopeLaw", 73, ⟨"CoinTelescopeModel", "look", "(II)I"⟩), ("CoinTelescopeModel", 197, ⟨"CoinTelescopeModel", "looksFor", "(I)V"⟩), ("CoinTelescopeModel", 182, ⟨"CoinTelescopeModel", "keeps", "()V"⟩), ("CoinTelescopeModel", 188, ⟨"CoinTelescopeModel", "power", "(I)I"⟩), ("CoinTelescopeModel", 191, ⟨"CoinTelescopeModel", "goesBack", "()V"⟩), ("CoinTelescopeLaw", 77, ⟨"CoinTelescopeModel", "aim", "(II)I"⟩), ("CoinTelescopeLaw", 81, ⟨"CoinTelescopeModel", "soon", "(I)I"⟩), ("CoinTelescopeModel", 204, ⟨"CoinTelescopeModel", "ticksTo", "(III)I"⟩), ("CoinTelescopeModel", 200, ⟨"CoinTelescopeModel", "far", "(II)I"⟩), ("CoinTelescopeModel", 45, ⟨"CoinTelescopeModel", "size", "(I)I"⟩), ("CoinTelescopeLaw", 85, ⟨"CoinTelescopeModel", "order", "(I)I"⟩), ("CoinTelescopeModel", 211, ⟨"CoinTelescopeModel", "ordersFrom", "(IIII)V"⟩), ("CoinTelescopeLaw", 89, ⟨"CoinTelescopeModel", "stood", "(III)I"⟩), ("CoinTelescopeLaw", 93, ⟨"CoinTelescopeModel", "from", "(I)I"⟩), ("CoinTelescopeModel", 215, ⟨"CoinTelescopeModel", "areAsTold", "(I)Z"⟩), ("CoinTelescopeLaw", 97, ⟨"CoinTelescopeModel", "firm", "(II)I"⟩), ("CoinTelescopeLaw", 102, ⟨"CoinTelescopeModel", "odds", "(III)J"⟩), ("CoinTelescopeModel", 222, ⟨"CoinTelescopeModel", "lowest", "(JJI)J"⟩), ("CoinTelescopeLaw", 107, ⟨"CoinTelescopeModel", "mean", "(I)J"⟩), ("CoinTelescopeLaw", 111, ⟨"CoinTelescopeModel", "plan", "(I)I"⟩), ("CoinTelescopeLaw", 115, ⟨"CoinTelescopeModel", "done", "(I)I"⟩), ("CoinTelescopeLaw", 119, ⟨"CoinTelescopeModel", "book", "(II)I"⟩), ("CoinTelescopeLaw", 123, ⟨"CoinTelescopeModel", "looked", "()I"⟩), ("CoinTelescopeLaw", 127, ⟨"CoinTelescopeModel", "act", "(III)I"⟩), ("CoinTelescopeModel", 244, ⟨"CoinTelescopeModel", "showsActs", "(I)I"⟩), ("CoinTelescopeModel", 238, ⟨"CoinTelescopeModel", "isUnder", "(II)Z"⟩), ("CoinTelescopeModel", 229, ⟨"CoinTelescopeModel", "ranBody", "(I)V"⟩), ("CoinTelescopeModel", 241, ⟨"CoinTelescopeModel", "plainShows", "(I)I"⟩), ("CoinTelescopeModel", 253, ⟨"CoinTelescopeModel", "shakesActs", "(I)I"⟩), ("CoinTelescopeModel", 250, ⟨"CoinTelescopeModel", "plainShakes", "(I)I"⟩), ("CoinTelescopeModel", 259, ⟨"CoinTelescopeModel", "tellsActs", "(I)I"⟩), ("CoinTelescopeModel", 256, ⟨"CoinTelescopeModel", "plainTelling", "(I)I"⟩), ("CoinTelescopeLaw", 131, ⟨"CoinTelescopeModel", "trace", "(I)I"⟩), ("CoinTelescopeLaw", 135, ⟨"CoinTelescopeModel", "as", "(II)I"⟩), ("CoinTelescopeLaw", 139, ⟨"CoinTelescopeModel", "image", "()I"⟩), ("CoinTelescopeLaw", 143, ⟨"CoinTelescopeModel", "undo", "()I"⟩), ("CoinTelescopeLaw", 147, ⟨"CoinTelescopeModel", "count", "(I)I"⟩)]
def clkL : List (String × Nat × String) := [("CoinTelescopeLaw", 7, "CoinTelescope"), ("CoinTelescope", 9, "CoinTelescope$State"), ("CoinTelescope$State", 9, "CoinTelescope$Table"), ("CoinTelescope$State", 20, "CoinTelescope$View"), ("CoinTelescope$State", 27, "CoinTelescope$Thing"), ("CoinTelescope", 21, "CoinTelescope$Table"), ("CoinTelescope", 30, "CoinTelescope$Search"), ("CoinTelescope", 62, "CoinTelescope$View"), ("CoinTelescope", 263, "CoinTelescope$Boat"), ("CoinTelescope", 265, "CoinTelescope$House"), ("CoinTelescope", 267, "CoinTelescope$Bird"), ("CoinTelescope", 269, "CoinTelescope$Ship"), ("CoinTelescope", 271, "CoinTelescope$Spire"), ("CoinTelescope", 273, "CoinTelescope$Told"), ("CoinTelescope", 101, "CoinTelescope$Thing"), ("CoinTelescopeLaw", 10, "CoinTelescopeModel")]
def wIn0 (w : Cond) : Bool := decide (w ∈ lw_tbl) && goodWord w
abbrev AW : List Cond := lw_tbl.filter goodWord
theorem wIn0_mem {w : Cond} (h : wIn0 w = true) : w ∈ AW := by
  simp only [wIn0, Bool.and_eq_true, decide_eq_true_eq] at h
  exact List.mem_filter.mpr h
def clCc (ci : Nat) : vw_C := vwCl.getD ci ("", fun _ => ("", "", "", false), 0)
def tyC (ci k : Nat) : FieldType := (parseFieldDescriptor ((clCc ci).2.1 k).2.2.1).getD .int
def isRefT : FieldType → Bool
  | .object _ => true
  | .array _ => true
  | _ => false
def rfF (ci k : Nat) : Bool := (rfT.getD ci []).getD k false
def clChk (ci : Nat) : Bool := decide (ci < vwCl.length) && decide ((clCc ci).2.2 = clN ci) && (u_ws (clCc ci).1 (clCc ci).2.1 (clCc ci).2.2).all wIn0 &&
  ((List.range (clN ci)).all fun k => decide (parseFieldDescriptor ((clCc ci).2.1 k).2.2.1 = some (tyC ci k)) && (if rfF ci k = true then isRefT (tyC ci k) else decide (tyC ci k = .int) || decide (tyC ci k = .boolean))) &&
  ((List.range (clN ci)).all fun a => (List.range (clN ci)).all fun b => decide (a = b) || decide (((clCc ci).2.1 a).2.1 ≠ ((clCc ci).2.1 b).2.1))
theorem clChk_all : ∀ ci, ci < 13 → clChk ci = true := by decide +kernel
theorem cl_get {ci : Nat} (h : ci < 13) : vwCl[ci]? = some (clCc ci) := by
  have h1 := clChk_all ci h
  simp only [clChk, Bool.and_eq_true, decide_eq_true_eq] at h1
  unfold clCc
  rw [List.getD_eq_getElem?_getD, List.getElem?_eq_getElem h1.1.1.1.1]
  rfl
theorem cl_N {ci : Nat} (h : ci < 13) : (clCc ci).2.2 = clN ci := by
  have h1 := clChk_all ci h
  simp only [clChk, Bool.and_eq_true, decide_eq_true_eq] at h1
  exact h1.1.1.1.2
theorem cl_in {ci : Nat} (h : ci < 13) : ∀ w ∈ u_ws (clCc ci).1 (clCc ci).2.1 (clCc ci).2.2, w ∈ AW := by
  have h1 := clChk_all ci h
  simp only [clChk, Bool.and_eq_true, decide_eq_true_eq] at h1
  exact fun w hw => wIn0_mem (List.all_eq_true.mp h1.1.1.2 w hw)
theorem cl_ty {ci : Nat} (h : ci < 13) : ∀ k, k < (clCc ci).2.2 → parseFieldDescriptor ((clCc ci).2.1 k).2.2.1 = some (tyC ci k) := by
  intro k hk
  rw [cl_N h] at hk
  have h1 := clChk_all ci h
  simp only [clChk, Bool.and_eq_true, decide_eq_true_eq] at h1
  have h2 := List.all_eq_true.mp h1.1.2 k (List.mem_range.mpr hk)
  simp only [Bool.and_eq_true, decide_eq_true_eq] at h2
  exact h2.1
theorem cl_rf {ci k : Nat} (h : ci < 13) (hk : k < clN ci) (hr : rfF ci k = true) : isRefT (tyC ci k) = true := by
  have h1 := clChk_all ci h
  simp only [clChk, Bool.and_eq_true, decide_eq_true_eq] at h1
  have h2 := List.all_eq_true.mp h1.1.2 k (List.mem_range.mpr hk)
  simp only [Bool.and_eq_true, decide_eq_true_eq] at h2
  have h3 := h2.2
  rw [if_pos hr] at h3
  exact h3
theorem cl_nrf {ci k : Nat} (h : ci < 13) (hk : k < clN ci) (hr : rfF ci k = false) : tyC ci k = .int ∨ tyC ci k = .boolean := by
  have h1 := clChk_all ci h
  simp only [clChk, Bool.and_eq_true, decide_eq_true_eq] at h1
  have h2 := List.all_eq_true.mp h1.1.2 k (List.mem_range.mpr hk)
  simp only [Bool.and_eq_true, decide_eq_true_eq] at h2
  have h3 := h2.2
  rw [if_neg (by rw [hr]; decide)] at h3
  simpa using h3
theorem cl_nm {ci : Nat} (h : ci < 13) : ∀ a, a < (clCc ci).2.2 → ∀ b, b < (clCc ci).2.2 → a ≠ b → ((clCc ci).2.1 a).2.1 ≠ ((clCc ci).2.1 b).2.1 := by
  intro a ha b hb hab
  rw [cl_N h] at ha hb
  have h1 := clChk_all ci h
  simp only [clChk, Bool.and_eq_true, decide_eq_true_eq] at h1
  have h2 := List.all_eq_true.mp (List.all_eq_true.mp h1.2 a (List.mem_range.mpr ha)) b (List.mem_range.mpr hb)
  simp only [Bool.or_eq_true, decide_eq_true_eq] at h2
  exact h2.resolve_left hab
theorem wlX_get {X : Cx} {G : Gh} {mi : Mi} {o : Nat} (h : o < gN G) : (wlX X G mi)[o]? = some (xb X + o, entX X G mi o) := by
  unfold wlX
  rw [List.getElem?_map, List.getElem?_range h]
  rfl
theorem wlX_len {X : Cx} {G : Gh} {mi : Mi} : (wlX X G mi).length = gN G := by simp [wlX]
theorem wlX_D {X : Cx} {G : Gh} {mi : Mi} : va_D (AX X) (wlX X G mi) := by
  have key : ∀ (k : Nat) (q : Nat × va_E), (wlX X G mi)[k]? = some q → q.1 = xb X + k := by
    intro k q hq
    have hk : k < gN G := by
      have := (List.getElem?_eq_some_iff.mp hq).1
      rw [wlX_len] at this
      exact this
    rw [wlX_get hk] at hq
    cases hq
    rfl
  refine ⟨fun i j p q hi hj e => ?_, fun k q hq => ?_⟩
  · have h1 := key i p hi
    have h2 := key j q hj
    omega
  · rw [key k q hq]
    exact Nat.le_add_right _ _
theorem wlX_set {X : Cx} {G G' : Gh} {mi mi' : Mi} {o : Nat} {en : va_E} (hN : gN G' = gN G) (ho : entX X G' mi' o = en) (hne : ∀ a, a ≠ o → entX X G' mi' a = entX X G mi a) : (wlX X G mi).set o (xb X + o, en) = wlX X G' mi' := by
  apply List.ext_getElem?
  intro k
  rw [List.getElem?_set]
  by_cases hk : k < gN G
  · rw [wlX_get (G := G') (by rw [hN]; exact hk)]
    by_cases h : o = k
    · subst h
      rw [if_pos rfl, if_pos (by rw [wlX_len]; exact hk), ho]
    · rw [if_neg h, wlX_get hk, hne k (fun z => h z.symm)]
  · have e1 : (wlX X G mi)[k]? = none := List.getElem?_eq_none_iff.mpr (by rw [wlX_len]; omega)
    have e2 : (wlX X G' mi')[k]? = none := List.getElem?_eq_none_iff.mpr (by rw [wlX_len, hN]; omega)
    rw [e1, e2]
    by_cases h : o = k
    · subst h
      rw [if_pos rfl, if_neg (by rw [wlX_len]; exact hk)]
    · rw [if_neg h]
theorem entX_obj {X : Cx} {G : Gh} {mi : Mi} {o ci : Nat} (h : (gK G o).1 = ci + 1) (hc : ci < 13) : entX X G mi o = .inr (ci, fvs X G mi o ci) := by
  unfold entX
  rw [if_pos (by omega), h]
  rfl
theorem entX_up {X : Cx} {G : Gh} {mi : Mi} {o : Nat} {k v : Int} {a : Nat} (h : a ≠ o) : entX X G (up mi o k v) a = entX X G mi a := by
  unfold entX fvs
  rw [up_o h]
theorem entX_setR {X : Cx} {G : Gh} {mi : Mi} {o : Nat} {k : Int} {v : Option Nat} {a : Nat} (h : a ≠ o) : entX X (setR G o k v) mi a = entX X G mi a := by
  have e : ∀ j, gR (setR G o k v) a j = gR G a j := fun j => by show upR (gR G) o k v a j = _; simp [upR, h]
  unfold entX fvs
  simp only [e]
  rfl
theorem fvs_up {X : Cx} {G : Gh} {mi : Mi} {o ci k : Nat} {v : Int} (hk : k < clN ci) (hr : rfF ci k = false) : fvs X G (up mi o k v) o ci = (fvs X G mi o ci).set k (.int (Int32.ofInt v)) := by
  apply List.ext_getElem?
  intro j
  rw [List.getElem?_set]
  unfold fvs
  rw [List.getElem?_map, List.getElem?_map, List.length_map, List.length_range]
  by_cases hj : j < clN ci
  · rw [List.getElem?_range hj]
    by_cases h : k = j
    · subst h
      rw [if_pos rfl, if_pos hk]
      simp only [Option.map_some]
      rw [if_neg (by show ¬ rfF ci k = true; rw [hr]; decide)]
      simp [up]
    · rw [if_neg h]
      simp only [Option.map_some]
      have : up mi o k v o j = mi o j := by
        have : ¬ ((j : Int) = (k : Int)) := by omega
        simp [up, this]
      rw [this]
  · have : (List.range (clN ci))[j]? = none := List.getElem?_eq_none_iff.mpr (by simp; omega)
    rw [this, if_neg (by omega)]
    rfl
theorem fvs_setR {X : Cx} {G : Gh} {mi : Mi} {o ci k : Nat} {v : Option Nat} (hk : k < clN ci) (hr : rfF ci k = true) : fvs X (setR G o k v) mi o ci = (fvs X G mi o ci).set k (va_rf (rfX X v)) := by
  apply List.ext_getElem?
  intro j
  rw [List.getElem?_set]
  unfold fvs
  rw [List.getElem?_map, List.getElem?_map, List.length_map, List.length_range]
  by_cases hj : j < clN ci
  · rw [List.getElem?_range hj]
    by_cases h : k = j
    · subst h
      rw [if_pos rfl, if_pos hk]
      simp only [Option.map_some]
      rw [if_pos (by exact hr)]
      show some (va_rf (rfX X (upR (gR G) o k v o k))) = _
      simp [upR]
    · rw [if_neg h]
      simp only [Option.map_some]
      have : gR (setR G o k v) o j = gR G o j := by
        have : ¬ ((j : Int) = (k : Int)) := by omega
        show upR (gR G) o k v o j = _
        simp [upR, this]
      rw [this]
  · have : (List.range (clN ci))[j]? = none := List.getElem?_eq_none_iff.mpr (by simp; omega)
    rw [this, if_neg (by omega)]
    rfl
theorem fvs_get {X : Cx} {G : Gh} {mi : Mi} {o ci k : Nat} (hk : k < clN ci) : (fvs X G mi o ci)[k]? = some (if rfF ci k = true then va_rf (rfX X (gR G o k)) else .int (Int32.ofInt (mi o k))) := by
  unfold fvs
  rw [List.getElem?_map, List.getElem?_range hk]
  rfl
theorem fvs_len {X : Cx} {G : Gh} {mi : Mi} {o ci : Nat} : (fvs X G mi o ci).length = clN ci := by simp [fvs]
theorem up_in {mi : Mi} {o : Nat} {k v : Int} (h : ∀ a j, in32 (mi a j)) (hv : in32 v) : ∀ a j, in32 (up mi o k v a j) := by
  intro a j
  unfold up
  split
  · exact hv
  · exact h a j
section ST3
variable {X : Cx} {p : Program} {l : Launch} {e : Env} {R : Room} {s : State} {m : MethodId} {args : Array Value} {below : List Frame} {meth : Method} {c : Code} {cc : ByteArray} {Q : State → Prop} {nL pc tgt i : Nat} {L : Lcs} {st : List PV} {G : Gh} {mi : Mi} {cells slots : Nat} {a b n off : Int} {o ci k : Nat} {own ref : String}
theorem st_gfi (hx : p.tables.exec = Jvm.exec) (hb : c.code = cc) (hE : EnvU X s s.heap) (hts : ∀ w ∈ AW, w.before args s = true) (hown : s.vm.findClass own = some m.cls) (hci : (gK G o).1 = ci + 1) (h13 : ci < 13) (hk : k < clN ci) (hlink : (Cond.fieldLink own i ref ((clCc ci).2.1 k).2.1 ((clCc ci).2.1 k).2.2.1).before args s = true) (hsame : ∀ x, s.fieldFound? ((clCc ci).2.1 k).1 ((clCc ci).2.1 k).2.1 ((clCc ci).2.1 k).2.2.1 = some x → s.fieldFound? ref ((clCc ci).2.1 k).2.1 ((clCc ci).2.1 k).2.2.1 = some x) (hr : rfF ci k = false) (hd : decode cc pc = .ok (.getfield i, 3))
    (k1 : WC X p l e R s m args below meth c Q nL (pc + 3) (L) (pI (mi o k) :: st) (G) (mi) (cells) (slots)) : WC X p l e R s m args below meth c Q nL (pc) (L) (pR (some o) :: st) (G) (mi) (cells) (slots) := by
  intro ls H locs hI hL hO hS
  have ho : o < gN G := hI.1.2.2.1 o (by omega)
  have hv := fvs_get (X := X) (G := G) (mi := mi) (o := o) hk
  rw [if_neg (by rw [hr]; decide)] at hv
  have hg := wlX_get (X := X) (mi := mi) ho
  rw [entX_obj hci h13] at hg
  exact va_get (C := (clCc ci).1) (T := (clCc ci).2.1) (N := (clCc ci).2.2) hx hb hts (cl_in h13) hown hE.1 hI.1.1 o hg (cl_get h13) k (by rw [cl_N h13]; exact hk) hlink hsame hv hd (k1 ls H locs hI hL hO (List.forall_mem_cons.mpr ⟨hI.1.2.1 o k, (List.forall_mem_cons.mp hS).2⟩))
theorem st_gfr (hx : p.tables.exec = Jvm.exec) (hb : c.code = cc) (hE : EnvU X s s.heap) (hts : ∀ w ∈ AW, w.before args s = true) (hown : s.vm.findClass own = some m.cls) (hci : (gK G o).1 = ci + 1) (h13 : ci < 13) (hk : k < clN ci) (hlink : (Cond.fieldLink own i ref ((clCc ci).2.1 k).2.1 ((clCc ci).2.1 k).2.2.1).before args s = true) (hsame : ∀ x, s.fieldFound? ((clCc ci).2.1 k).1 ((clCc ci).2.1 k).2.1 ((clCc ci).2.1 k).2.2.1 = some x → s.fieldFound? ref ((clCc ci).2.1 k).2.1 ((clCc ci).2.1 k).2.2.1 = some x) (hr : rfF ci k = true) (hd : decode cc pc = .ok (.getfield i, 3))
    (k1 : WC X p l e R s m args below meth c Q nL (pc + 3) (L) (pR (gR G o k) :: st) (G) (mi) (cells) (slots)) : WC X p l e R s m args below meth c Q nL (pc) (L) (pR (some o) :: st) (G) (mi) (cells) (slots) := by
  intro ls H locs hI hL hO hS
  have ho : o < gN G := hI.1.2.2.1 o (by omega)
  have hv := fvs_get (X := X) (G := G) (mi := mi) (o := o) hk
  rw [if_pos hr] at hv
  have hg := wlX_get (X := X) (mi := mi) ho
  rw [entX_obj hci h13] at hg
  exact va_get (C := (clCc ci).1) (T := (clCc ci).2.1) (N := (clCc ci).2.2) hx hb hts (cl_in h13) hown hE.1 hI.1.1 o hg (cl_get h13) k (by rw [cl_N h13]; exact hk) hlink hsame hv hd (k1 ls H locs hI hL hO (List.forall_mem_cons.mpr ⟨trivial, (List.forall_mem_cons.mp hS).2⟩))
theorem nar_bool {v : Int} (h0 : 0 ≤ v) (h1 : v ≤ 1) : narrow .boolean (.int (Int32.ofInt v)) = .int (Int32.ofInt v) ∧ fits .boolean (.int (Int32.ofInt v)) = true := by
  have : v = 0 ∨ v = 1 := by omega
  rcases this with rfl | rfl <;> exact ⟨by decide, by decide⟩
theorem nar_nrf {ci k : Nat} {v : Int} (h13 : ci < 13) (hk : k < clN ci) (hr : rfF ci k = false) (hb : tyC ci k = .boolean → 0 ≤ v ∧ v ≤ 1) : narrow (tyC ci k) (.int (Int32.ofInt v)) = .int (Int32.ofInt v) ∧ fits (tyC ci k) (.int (Int32.ofInt v)) = true := by
  rcases cl_nrf h13 hk hr with h | h
  · rw [h]; exact ⟨rfl, rfl⟩
  · obtain ⟨h0, h1⟩ := hb h
    rw [h]; exact nar_bool h0 h1
theorem nar_rf {X : Cx} {ci k : Nat} {v : Option Nat} (h13 : ci < 13) (hk : k < clN ci) (hr : rfF ci k = true) : narrow (tyC ci k) (va_rf (rfX X v)) = va_rf (rfX X v) ∧ fits (tyC ci k) (va_rf (rfX X v)) = true := by
  have h := cl_rf h13 hk hr
  cases v <;> (cases ht : tyC ci k <;> rw [ht] at h <;> first | (exact ⟨rfl, rfl⟩) | (cases h))
theorem st_pfi (hx : p.tables.exec = Jvm.exec) (hb : c.code = cc) (hE : EnvU X s s.heap) (hts : ∀ w ∈ AW, w.before args s = true) (hown : s.vm.findClass own = some m.cls) (hci : (gK G o).1 = ci + 1) (h13 : ci < 13) (hk : k < clN ci) (hlink : (Cond.fieldLink own i ref ((clCc ci).2.1 k).2.1 ((clCc ci).2.1 k).2.2.1).before args s = true) (hsame : ∀ x, s.fieldFound? ((clCc ci).2.1 k).1 ((clCc ci).2.1 k).2.1 ((clCc ci).2.1 k).2.2.1 = some x → s.fieldFound? ref ((clCc ci).2.1 k).2.1 ((clCc ci).2.1 k).2.2.1 = some x) (hr : rfF ci k = false) (hfin : ((clCc ci).2.1 k).2.2.2 = false ∨ (meth.name = "<init>" ∧ ((clCc ci).2.1 k).1 = own)) (hbool : tyC ci k = .boolean → 0 ≤ a ∧ a ≤ 1) (hd : decode cc pc = .ok (.putfield i, 3))
    (k1 : WC X p l e R s m args below meth c Q nL (pc + 3) (L) (st) (G) (up mi o k a) (cells) (slots)) : WC X p l e R s m args below meth c Q nL (pc) (L) (pI a :: pR (some o) :: st) (G) (mi) (cells) (slots) := by
  intro ls H locs hI hL hO hS
  have ho : o < gN G := hI.1.2.2.1 o (by omega)
  have hg := wlX_get (X := X) (mi := mi) ho
  rw [entX_obj hci h13] at hg
  obtain ⟨hv1, hS1⟩ := List.forall_mem_cons.mp hS
  obtain ⟨-, hS2⟩ := List.forall_mem_cons.mp hS1
  have key : ∀ (H1 : Heap) (locs1 : List Loc), va_P (xD X) vwCl ((wlX X G mi).set o (xb X + o, .inr (ci, (fvs X G mi o ci).set k (.int (Int32.ofInt a))))) H1 → va_S (AX X) s.heap H1 locs1 → W p l e R s m args below meth c H1 locs1 cells slots Q (F0 m (pc + 3) ls (st.map (trV X))) := by
    intro H1 locs1 hP1 hS3
    rw [wlX_set (G := G) (mi := mi) (G' := G) (mi' := up mi o k a) rfl (by rw [entX_obj (by exact hci) h13, fvs_up hk hr]) (fun q hq => entX_up hq)] at hP1
    exact k1 ls H1 locs1 ⟨⟨hP1, up_in hI.1.2.1 hv1, hI.1.2.2⟩, hS3⟩ hL hO hS2
  by_cases hf : ((clCc ci).2.1 k).2.2.2 = false
  · exact va_put (C := (clCc ci).1) (T := (clCc ci).2.1) (N := (clCc ci).2.2) hx hb hts (cl_in h13) (tyC ci) (cl_ty h13) (cl_nm h13) hown hE.1 hI.1.1 wlX_D hI.2 o hg (cl_get h13) k (by rw [cl_N h13]; exact hk) hlink hsame hf (cl_ty h13 k (by rw [cl_N h13]; exact hk)) (nar_nrf h13 hk hr hbool).1 (nar_nrf h13 hk hr hbool).2 (by rw [fvs_len]; exact hk) hd (fun H1 locs1 h1 _ h3 => key H1 locs1 h1 h3)
  · obtain ⟨g1, g2⟩ := hfin.resolve_left hf
    exact va_putF (C := (clCc ci).1) (T := (clCc ci).2.1) (N := (clCc ci).2.2) hx hb hts (cl_in h13) (tyC ci) (cl_ty h13) (cl_nm h13) hown hE.1 hI.1.1 wlX_D hI.2 o hg (cl_get h13) k (by rw [cl_N h13]; exact hk) hlink hsame (by simpa using hf) g1 g2 (cl_ty h13 k (by rw [cl_N h13]; exact hk)) (nar_nrf h13 hk hr hbool).1 (nar_nrf h13 hk hr hbool).2 (by rw [fvs_len]; exact hk) hd (fun H1 locs1 h1 _ h3 => key H1 locs1 h1 h3)
theorem st_pfr (hx : p.tables.exec = Jvm.exec) (hb : c.code = cc) (hE : EnvU X s s.heap) (hts : ∀ w ∈ AW, w.before args s = true) (hown : s.vm.findClass own = some m.cls) {r : Option Nat} (hci : (gK G o).1 = ci + 1) (h13 : ci < 13) (hk : k < clN ci) (hlink : (Cond.fieldLink own i ref ((clCc ci).2.1 k).2.1 ((clCc ci).2.1 k).2.2.1).before args s = true) (hsame : ∀ x, s.fieldFound? ((clCc ci).2.1 k).1 ((clCc ci).2.1 k).2.1 ((clCc ci).2.1 k).2.2.1 = some x → s.fieldFound? ref ((clCc ci).2.1 k).2.1 ((clCc ci).2.1 k).2.2.1 = some x) (hr : rfF ci k = true) (hfin : ((clCc ci).2.1 k).2.2.2 = false ∨ (meth.name = "<init>" ∧ ((clCc ci).2.1 k).1 = own)) (hd : decode cc pc = .ok (.putfield i, 3))
    (k1 : WC X p l e R s m args below meth c Q nL (pc + 3) (L) (st) (setR G o k r) (mi) (cells) (slots)) : WC X p l e R s m args below meth c Q nL (pc) (L) (pR r :: pR (some o) :: st) (G) (mi) (cells) (slots) := by
  intro ls H locs hI hL hO hS
  have ho : o < gN G := hI.1.2.2.1 o (by omega)
  have hg := wlX_get (X := X) (mi := mi) ho
  rw [entX_obj hci h13] at hg
  obtain ⟨hv1, hS1⟩ := List.forall_mem_cons.mp hS
  obtain ⟨-, hS2⟩ := List.forall_mem_cons.mp hS1
  have key : ∀ (H1 : Heap) (locs1 : List Loc), va_P (xD X) vwCl ((wlX X G mi).set o (xb X + o, .inr (ci, (fvs X G mi o ci).set k (va_rf (rfX X r))))) H1 → va_S (AX X) s.heap H1 locs1 → W p l e R s m args below meth c H1 locs1 cells slots Q (F0 m (pc + 3) ls (st.map (trV X))) := by
    intro H1 locs1 hP1 hS3
    rw [wlX_set (G := G) (mi := mi) (G' := setR G o k r) (mi' := mi) rfl (by rw [entX_obj (by exact hci) h13, fvs_setR hk hr]) (fun q hq => entX_setR hq)] at hP1
    exact k1 ls H1 locs1 ⟨⟨hP1, hI.1.2.1, hI.1.2.2⟩, hS3⟩ hL hO hS2
  by_cases hf : ((clCc ci).2.1 k).2.2.2 = false
  · exact va_put (C := (clCc ci).1) (T := (clCc ci).2.1) (N := (clCc ci).2.2) hx hb hts (cl_in h13) (tyC ci) (cl_ty h13) (cl_nm h13) hown hE.1 hI.1.1 wlX_D hI.2 o hg (cl_get h13) k (by rw [cl_N h13]; exact hk) hlink hsame hf (cl_ty h13 k (by rw [cl_N h13]; exact hk)) (nar_rf h13 hk hr).1 (nar_rf h13 hk hr).2 (by rw [fvs_len]; exact hk) hd (fun H1 locs1 h1 _ h3 => key H1 locs1 h1 h3)
  · obtain ⟨g1, g2⟩ := hfin.resolve_left hf
    exact va_putF (C := (clCc ci).1) (T := (clCc ci).2.1) (N := (clCc ci).2.2) hx hb hts (cl_in h13) (tyC ci) (cl_ty h13) (cl_nm h13) hown hE.1 hI.1.1 wlX_D hI.2 o hg (cl_get h13) k (by rw [cl_N h13]; exact hk) hlink hsame (by simpa using hf) g1 g2 (cl_ty h13 k (by rw [cl_N h13]; exact hk)) (nar_rf h13 hk hr).1 (nar_rf h13 hk hr).2 (by rw [fvs_len]; exact hk) hd (fun H1 locs1 h1 _ h3 => key H1 locs1 h1 h3)
theorem entX_i {X : Cx} {G : Gh} {mi : Mi} {o : Nat} (h : (gK G o).1 = 20) : entX X G mi o = .inl (xI X, (gK G o).2, .inl fun j => Int32.ofInt (mi o j)) := by
  unfold entX
  rw [if_neg (by omega), if_pos h]
theorem entX_z {X : Cx} {G : Gh} {mi : Mi} {o : Nat} (h : (gK G o).1 = 21) : entX X G mi o = .inl (xZ X, (gK G o).2, .inl fun j => Int32.ofInt (mi o j)) := by
  unfold entX
  rw [if_neg (by omega), if_neg (by omega), if_pos h]
theorem entX_q {X : Cx} {G : Gh} {mi : Mi} {o : Nat} (h : (gK G o).1 = 22) : entX X G mi o = .inl (xT X, (gK G o).2, .inr (.inr (.inr (.inr fun j => rfX X (gR G o j))))) := by
  unfold entX
  rw [if_neg (by omega), if_neg (by omega), if_neg (by omega)]
theorem up_arr {mi : Mi} {o : Nat} {i v : Int} (h0 : 0 ≤ i) : (fun j : Nat => Int32.ofInt (up mi o i v o j)) = upd (fun j : Nat => Int32.ofInt (mi o j)) i.toNat (Int32.ofInt v) := by
  funext j
  unfold up upd
  by_cases h : j = i.toNat
  · rw [if_pos h, if_pos ⟨rfl, by omega⟩]
  · rw [if_neg h, if_neg (fun z => h (by omega))]
theorem st_iaload (hx : p.tables.exec = Jvm.exec) (hb : c.code = cc) (hE : EnvU X s s.heap) (hts : ∀ w ∈ AW, w.before args s = true) (hown : s.vm.findClass own = some m.cls) (hk0 : (gK G o).1 = 20) (h0 : 0 ≤ a) (h1 : a < (gK G o).2) (hd : decode cc pc = .ok (.iaload, 1))
    (k1 : WC X p l e R s m args below meth c Q nL (pc + 1) (L) (pI (mi o a) :: st) (G) (mi) (cells) (slots)) : WC X p l e R s m args below meth c Q nL (pc) (L) (pI a :: pR (some o) :: st) (G) (mi) (cells) (slots) := by
  intro ls H locs hI hL hO hS
  obtain ⟨hi1, hS1⟩ := List.forall_mem_cons.mp hS
  have hS2 := (List.forall_mem_cons.mp hS1).2
  have ho : o < gN G := hI.1.2.2.1 o (by omega)
  have hg := wlX_get (X := X) (mi := mi) ho
  rw [entX_i hk0] at hg
  refine va_iald hx hb hE.1 hI.1.1 o 0 hg rfl (of_vp hi1 h0 h1) hd ?_
  have kk := k1 ls H locs hI hL hO (List.forall_mem_cons.mpr ⟨hI.1.2.1 o a, hS2⟩)
  rw [List.map_cons] at kk
  rw [of_clamp hi1, Int.toNat_of_nonneg h0]
  exact kk
theorem st_baload (hx : p.tables.exec = Jvm.exec) (hb : c.code = cc) (hE : EnvU X s s.heap) (hts : ∀ w ∈ AW, w.before args s = true) (hown : s.vm.findClass own = some m.cls) (hk0 : (gK G o).1 = 21) (h0 : 0 ≤ a) (h1 : a < (gK G o).2) (hd : decode cc pc = .ok (.baload, 1))
    (k1 : WC X p l e R s m args below meth c Q nL (pc + 1) (L) (pI (mi o a) :: st) (G) (mi) (cells) (slots)) : WC X p l e R s m args below meth c Q nL (pc) (L) (pI a :: pR (some o) :: st) (G) (mi) (cells) (slots) := by
  intro ls H locs hI hL hO hS
  obtain ⟨hi1, hS1⟩ := List.forall_mem_cons.mp hS
  have hS2 := (List.forall_mem_cons.mp hS1).2
  have ho : o < gN G := hI.1.2.2.1 o (by omega)
  have hg := wlX_get (X := X) (mi := mi) ho
  rw [entX_z hk0] at hg
  refine va_zald hx hb hE.1 hI.1.1 o 1 hg rfl (of_vp hi1 h0 h1) hd ?_
  have kk := k1 ls H locs hI hL hO (List.forall_mem_cons.mpr ⟨hI.1.2.1 o a, hS2⟩)
  rw [List.map_cons] at kk
  rw [of_clamp hi1, Int.toNat_of_nonneg h0]
  exact kk
theorem st_aaload (hx : p.tables.exec = Jvm.exec) (hb : c.code = cc) (hE : EnvU X s s.heap) (hts : ∀ w ∈ AW, w.before args s = true) (hown : s.vm.findClass own = some m.cls) (hk0 : (gK G o).1 = 22) (h0 : 0 ≤ a) (h1 : a < (gK G o).2) (hd : decode cc pc = .ok (.aaload, 1))
    (k1 : WC X p l e R s m args below meth c Q nL (pc + 1) (L) (pR (gR G o a) :: st) (G) (mi) (cells) (slots)) : WC X p l e R s m args below meth c Q nL (pc) (L) (pI a :: pR (some o) :: st) (G) (mi) (cells) (slots) := by
  intro ls H locs hI hL hO hS
  obtain ⟨hi1, hS1⟩ := List.forall_mem_cons.mp hS
  have hS2 := (List.forall_mem_cons.mp hS1).2
  have ho : o < gN G := hI.1.2.2.1 o (by omega)
  have hg := wlX_get (X := X) (mi := mi) ho
  rw [entX_q hk0] at hg
  refine va_aldq hx hb hE.1 hI.1.1 o 2 hg rfl (of_vp hi1 h0 h1) hd ?_
  have kk := k1 ls H locs hI hL hO (List.forall_mem_cons.mpr ⟨trivial, hS2⟩)
  rw [List.map_cons] at kk
  rw [of_clamp hi1, Int.toNat_of_nonneg h0]
  exact kk
theorem st_iastore (hx : p.tables.exec = Jvm.exec) (hb : c.code = cc) (hE : EnvU X s s.heap) (hts : ∀ w ∈ AW, w.before args s = true) (hown : s.vm.findClass own = some m.cls) (hk0 : (gK G o).1 = 20) (h0 : 0 ≤ a) (h1 : a < (gK G o).2) (hd : decode cc pc = .ok (.iastore, 1))
    (k1 : WC X p l e R s m args below meth c Q nL (pc + 1) (L) (st) (G) (up mi o a b) (cells) (slots)) : WC X p l e R s m args below meth c Q nL (pc) (L) (pI b :: pI a :: pR (some o) :: st) (G) (mi) (cells) (slots) := by
  intro ls H locs hI hL hO hS
  obtain ⟨hv1, hS0⟩ := List.forall_mem_cons.mp hS
  obtain ⟨hi1, hS1⟩ := List.forall_mem_cons.mp hS0
  have hS2 := (List.forall_mem_cons.mp hS1).2
  have ho : o < gN G := hI.1.2.2.1 o (by omega)
  have hg := wlX_get (X := X) (mi := mi) ho
  rw [entX_i hk0] at hg
  refine va_iast (x := Int32.ofInt b) hx hb hE.1 hI.1.1 wlX_D hI.2 o 0 hg rfl (of_vp hi1 h0 h1) hd (fun H1 locs1 hP1 _ hS3 => ?_)
  rw [wlX_set (G := G) (mi := mi) (G' := G) (mi' := up mi o a b) rfl (by rw [entX_i hk0, up_arr h0, of_clamp hi1]) (fun q hq => entX_up hq)] at hP1
  exact k1 ls H1 locs1 ⟨⟨hP1, up_in hI.1.2.1 hv1, hI.1.2.2⟩, hS3⟩ hL hO hS2
theorem st_bastore (hx : p.tables.exec = Jvm.exec) (hb : c.code = cc) (hE : EnvU X s s.heap) (hts : ∀ w ∈ AW, w.before args s = true) (hown : s.vm.findClass own = some m.cls) (hk0 : (gK G o).1 = 21) (h0 : 0 ≤ a) (h1 : a < (gK G o).2) (h2 : 0 ≤ b) (h3 : b ≤ 1) (hd : decode cc pc = .ok (.bastore, 1))
    (k1 : WC X p l e R s m args below meth c Q nL (pc + 1) (L) (st) (G) (up mi o a b) (cells) (slots)) : WC X p l e R s m args below meth c Q nL (pc) (L) (pI b :: pI a :: pR (some o) :: st) (G) (mi) (cells) (slots) := by
  intro ls H locs hI hL hO hS
  obtain ⟨hv1, hS0⟩ := List.forall_mem_cons.mp hS
  obtain ⟨hi1, hS1⟩ := List.forall_mem_cons.mp hS0
  have hS2 := (List.forall_mem_cons.mp hS1).2
  have ho : o < gN G := hI.1.2.2.1 o (by omega)
  have hg := wlX_get (X := X) (mi := mi) ho
  rw [entX_z hk0] at hg
  refine va_zast (x := Int32.ofInt b) hx hb hE.1 hI.1.1 wlX_D hI.2 o 1 hg rfl (of_vp hi1 h0 h1) hd (fun H1 locs1 hP1 _ hS3 => ?_)
  have hn : vp_nar .boolean (Int32.ofInt b) = Int32.ofInt b := by unfold vp_nar; rw [(nar_bool h2 h3).1]
  rw [wlX_set (G := G) (mi := mi) (G' := G) (mi' := up mi o a b) rfl (by rw [entX_z hk0, up_arr h0, of_clamp hi1, hn]) (fun q hq => entX_up hq)] at hP1
  exact k1 ls H1 locs1 ⟨⟨hP1, up_in hI.1.2.1 hv1, hI.1.2.2⟩, hS3⟩ hL hO hS2
theorem upR_arr {X : Cx} {G : Gh} {o v : Nat} {i : Int} (h0 : 0 ≤ i) : (fun j : Nat => rfX X (gR (setR G o i (some v)) o j)) = va_up (fun j : Nat => rfX X (gR G o j)) i.toNat (some (xb X + v)) := by
  funext j
  show rfX X (upR (gR G) o i (some v) o j) = _
  unfold upR va_up
  by_cases h : j = i.toNat
  · rw [if_pos h, if_pos ⟨rfl, by omega⟩]; rfl
  · rw [if_neg h, if_neg (fun z => h (by omega))]
theorem thg_cls : ∀ ci, ci < 13 → thg (ci + 1) = true → (clCc ci).1 = "CoinTelescope$Thing" ∨ ((clCc ci).1, "CoinTelescope$Thing") ∈ castL := by decide +kernel
theorem thg_lt {c : Nat} (h : thg c = true) : 1 ≤ c ∧ c ≤ 13 := by
  simp only [thg, Bool.or_eq_true, beq_iff_eq] at h
  omega
theorem st_aastore (hx : p.tables.exec = Jvm.exec) (hb : c.code = cc) (hE : EnvU X s s.heap) (hts : ∀ w ∈ AW, w.before args s = true) (hown : s.vm.findClass own = some m.cls) {v : Nat} (hk0 : (gK G o).1 = 22) (h0 : 0 ≤ a) (h1 : a < (gK G o).2) (hv : thg (gK G v).1 = true) (hd : decode cc pc = .ok (.aastore, 1))
    (k1 : WC X p l e R s m args below meth c Q nL (pc + 1) (L) (st) (setR G o a (some v)) (mi) (cells) (slots)) : WC X p l e R s m args below meth c Q nL (pc) (L) (pR (some v) :: pI a :: pR (some o) :: st) (G) (mi) (cells) (slots) := by
  intro ls H locs hI hL hO hS
  obtain ⟨hv1, hS0⟩ := List.forall_mem_cons.mp hS
  obtain ⟨hi1, hS1⟩ := List.forall_mem_cons.mp hS0
  have hS2 := (List.forall_mem_cons.mp hS1).2
  have ho : o < gN G := hI.1.2.2.1 o (by omega)
  have hg := wlX_get (X := X) (mi := mi) ho
  rw [entX_q hk0] at hg
  obtain ⟨l1, l2⟩ := thg_lt hv
  obtain ⟨cv, hcv⟩ : ∃ cv, (gK G v).1 = cv + 1 := ⟨(gK G v).1 - 1, by omega⟩
  have h13 : cv < 13 := by omega
  have hgv := wlX_get (X := X) (mi := mi) (hI.1.2.2.1 v (by omega))
  rw [entX_obj hcv h13] at hgv
  have key : ∀ (H1 : Heap) (locs1 : List Loc), va_P (xD X) vwCl ((wlX X G mi).set o (xb X + o, .inl (xT X, (gK G o).2, .inr (.inr (.inr (.inr (va_up (fun j : Nat => rfX X (gR G o j)) (Int32.ofInt a).toNatClampNeg (some (xb X + v))))))))) H1 → va_S (AX X) s.heap H1 locs1 → W p l e R s m args below meth c H1 locs1 cells slots Q (F0 m (pc + 1) ls (st.map (trV X))) := by
    intro H1 locs1 hP1 hS3
    rw [wlX_set (G := G) (mi := mi) (G' := setR G o a (some v)) (mi' := mi) rfl (by rw [entX_q (by exact hk0), upR_arr h0, of_clamp hi1]; rfl) (fun q hq => entX_setR hq)] at hP1
    exact k1 ls H1 locs1 ⟨⟨hP1, hI.1.2.1, hI.1.2.2⟩, hS3⟩ hL hO hS2
  rcases thg_cls cv h13 (by rw [← hcv]; exact hv) with h | h
  · exact va_astq (r := clCc cv) hx hb hE.1 hI.1.1 wlX_D hI.2 o 2 v cv hg (by rw [h]; rfl) hgv (cl_get h13) (of_vp hi1 h0 h1) hd (fun H1 locs1 hP1 _ hS3 => key H1 locs1 hP1 hS3)
  · exact va_astqO (r := clCc cv) hx hb hE.1 hI.1.1 wlX_D hI.2 o 2 v cv hg rfl (hE.2.2.2.2.2.2.2.1 _ h) hgv (cl_get h13) (of_vp hi1 h0 h1) hd (fun H1 locs1 hP1 _ hS3 => key H1 locs1 hP1 hS3)
theorem upR_arrN {X : Cx} {G : Gh} {o : Nat} {i : Int} (h0 : 0 ≤ i) : (fun j : Nat => rfX X (gR (setR G o i none) o j)) = va_up (fun j : Nat => rfX X (gR G o j)) i.toNat none := by
  funext j
  show rfX X (upR (gR G) o i none o j) = _
  unfold upR va_up
  by_cases h : j = i.toNat
  · rw [if_pos h, if_pos ⟨rfl, by omega⟩]; rfl
  · rw [if_neg h, if_neg (fun z => h (by omega))]
theorem st_aastoreN (hx : p.tables.exec = Jvm.exec) (hb : c.code = cc) (hE : EnvU X s s.heap) (hts : ∀ w ∈ AW, w.before args s = true) (hown : s.vm.findClass own = some m.cls) (hk0 : (gK G o).1 = 22) (h0 : 0 ≤ a) (h1 : a < (gK G o).2) (hd : decode cc pc = .ok (.aastore, 1))
    (k1 : WC X p l e R s m args below meth c Q nL (pc + 1) (L) (st) (setR G o a none) (mi) (cells) (slots)) : WC X p l e R s m args below meth c Q nL (pc) (L) (pR none :: pI a :: pR (some o) :: st) (G) (mi) (cells) (slots) := by
  intro ls H locs hI hL hO hS
  obtain ⟨hv1, hS0⟩ := List.forall_mem_cons.mp hS
  obtain ⟨hi1, hS1⟩ := List.forall_mem_cons.mp hS0
  have hS2 := (List.forall_mem_cons.mp hS1).2
  have ho : o < gN G := hI.1.2.2.1 o (by omega)
  have hg := wlX_get (X := X) (mi := mi) ho
  rw [entX_q hk0] at hg
  have key : ∀ (H1 : Heap) (locs1 : List Loc), va_P (xD X) vwCl ((wlX X G mi).set o (xb X + o, .inl (xT X, (gK G o).2, .inr (.inr (.inr (.inr (va_up (fun j : Nat => rfX X (gR G o j)) (Int32.ofInt a).toNatClampNeg none))))))) H1 → va_S (AX X) s.heap H1 locs1 → W p l e R s m args below meth c H1 locs1 cells slots Q (F0 m (pc + 1) ls (st.map (trV X))) := by
    intro H1 locs1 hP1 hS3
    rw [wlX_set (G := G) (mi := mi) (G' := setR G o a none) (mi' := mi) rfl (by rw [entX_q (by exact hk0), upR_arrN h0, of_clamp hi1]; rfl) (fun q hq => entX_setR hq)] at hP1
    exact k1 ls H1 locs1 ⟨⟨hP1, hI.1.2.1, hI.1.2.2⟩, hS3⟩ hL hO hS2
  exact va_astqN hx hb hE.1 hI.1.1 wlX_D hI.2 o 2 hg rfl (of_vp hi1 h0 h1) hd (fun H1 locs1 hP1 _ hS3 => key H1 locs1 hP1 hS3)
theorem of_nat (n : Nat) : Int32.ofNat n = Int32.ofInt (n : Int) := rfl
theorem st_alen (hx : p.tables.exec = Jvm.exec) (hb : c.code = cc) (hE : EnvU X s s.heap) (hts : ∀ w ∈ AW, w.before args s = true) (hown : s.vm.findClass own = some m.cls) (hk0 : 20 ≤ (gK G o).1) (hd : decode cc pc = .ok (.arraylength, 1))
    (k1 : WC X p l e R s m args below meth c Q nL (pc + 1) (L) (pI (gK G o).2 :: st) (G) (mi) (cells) (slots)) : WC X p l e R s m args below meth c Q nL (pc) (L) (pR (some o) :: st) (G) (mi) (cells) (slots) := by
  intro ls H locs hI hL hO hS
  have hS2 := (List.forall_mem_cons.mp hS).2
  have ho : o < gN G := hI.1.2.2.1 o (by omega)
  have hg := wlX_get (X := X) (mi := mi) ho
  have hlen : in32 ((gK G o).2 : Int) := by have := hI.1.2.2.2.2.1 o; unfold in32; omega
  have kk := k1 ls H locs hI hL hO (List.forall_mem_cons.mpr ⟨hlen, hS2⟩)
  have h22 : (gK G o).1 ≤ 22 := by rcases hI.1.2.2.2.1 o with h | h <;> omega
  by_cases e1 : (gK G o).1 = 20
  · rw [entX_i e1] at hg
    exact va_alen hx hb hE.1 hI.1.1 o 0 hg rfl (of_nat _) hd kk
  · by_cases e2 : (gK G o).1 = 21
    · rw [entX_z e2] at hg
      exact va_alen hx hb hE.1 hI.1.1 o 1 hg rfl (of_nat _) hd kk
    · rw [entX_q (by omega)] at hg
      exact va_alen hx hb hE.1 hI.1.1 o 2 hg rfl (of_nat _) hd kk
theorem st_alenS (hx : p.tables.exec = Jvm.exec) (hb : c.code = cc) (hE : EnvU X s s.heap) (hts : ∀ w ∈ AW, w.before args s = true) (hown : s.vm.findClass own = some m.cls)  (hd : decode cc pc = .ok (.arraylength, 1))
    (k1 : WC X p l e R s m args below meth c Q nL (pc + 1) (L) (pI (gL G) :: st) (G) (mi) (cells) (slots)) : WC X p l e R s m args below meth c Q nL (pc) (L) (pE 0 :: st) (G) (mi) (cells) (slots) := by
  intro ls H locs hI hL hO hS
  have hS2 := (List.forall_mem_cons.mp hS).2
  have hl : gL G = (xs X).2.1 := hI.1.2.2.2.2.2.1
  have hlen : in32 ((gL G) : Int) := by have := hE.2.1.2.2; unfold in32; omega
  have kk := k1 ls H locs hI hL hO (List.forall_mem_cons.mpr ⟨hlen, hS2⟩)
  rw [hl] at kk
  have hlt : (xs X).1 < s.heap.size := (Array.getElem?_eq_some_iff.mp hE.2.1.1.choose_spec.1).1
  exact va_slen (A := AX X) hx hb hE.2.1.1 hlt (Nat.not_le.mpr hE.2.1.2.1) hI.2 hd kk
theorem st_ialdS (hx : p.tables.exec = Jvm.exec) (hb : c.code = cc) (hE : EnvU X s s.heap) (hts : ∀ w ∈ AW, w.before args s = true) (hown : s.vm.findClass own = some m.cls) (h0 : 0 ≤ a) (h1 : a < gL G) (hd : decode cc pc = .ok (.iaload, 1))
    (k1 : WC X p l e R s m args below meth c Q nL (pc + 1) (L) (pI (gX G a) :: st) (G) (mi) (cells) (slots)) : WC X p l e R s m args below meth c Q nL (pc) (L) (pI a :: pE 0 :: st) (G) (mi) (cells) (slots) := by
  intro ls H locs hI hL hO hS
  obtain ⟨hi1, hS1⟩ := List.forall_mem_cons.mp hS
  have hS2 := (List.forall_mem_cons.mp hS1).2
  have hl : gL G = (xs X).2.1 := hI.1.2.2.2.2.2.1
  have hv : gX G a = ((xs X).2.2 a.toNat).toInt := hI.1.2.2.2.2.2.2 a h0 h1
  have kk := k1 ls H locs hI hL hO (List.forall_mem_cons.mpr ⟨show in32 (gX G a) by rw [hv]; exact to_in _, hS2⟩)
  rw [List.map_cons, hv, show trV X (pI ((xs X).2.2 a.toNat).toInt) = .int ((xs X).2.2 a.toNat) from congrArg Value.int (Int32.ofInt_toInt _)] at kk
  have hlt : (xs X).1 < s.heap.size := (Array.getElem?_eq_some_iff.mp hE.2.1.1.choose_spec.1).1
  refine va_sld (A := AX X) hx hb hE.2.1.1 hlt (Nat.not_le.mpr hE.2.1.2.1) hI.2 (of_vp hi1 h0 (by rw [← hl]; exact h1)) hd ?_
  rw [of_clamp hi1]
  exact kk
theorem sb_len {q : Nat} (h : q < sTexts.length) : sLens.getD q 0 = (sBytes q).length := by
  unfold sLens sBytes
  rw [List.getD_eq_getElem?_getD, List.getElem?_map, List.getD_eq_getElem?_getD, List.getElem?_eq_getElem h]
  rfl
theorem sb_byt {q j : Nat} (h : q < sTexts.length) (hj : j < (sBytes q).length) : (sByts.getD q []).getD j 0 = Int32.ofInt ((sBytes q).getD j 0) := by
  unfold sByts
  unfold sBytes at hj ⊢
  rw [List.getD_eq_getElem?_getD (l := sTexts)] at hj ⊢
  rw [List.getElem?_eq_getElem h] at hj ⊢
  rw [List.getD_eq_getElem?_getD (l := List.map _ _), List.getElem?_map, List.getElem?_eq_getElem h]
  simp only [Option.map_some, Option.getD_some] at hj ⊢
  rw [List.getD_eq_getElem?_getD, List.getElem?_map, List.getElem?_eq_getElem hj, List.getD_eq_getElem?_getD, List.getElem?_eq_getElem hj]
  rfl
theorem sb_in : ∀ q, q < sTexts.length → (sBytes q).length < 100 ∧ ∀ v ∈ sBytes q, 0 ≤ v ∧ v < 128 := by decide +kernel
theorem evX_b {X : Cx} {q : Nat} (h : q < sTexts.length) : trV X (pE (2 * q + 2)) = .ref (xV X q) := by
  show evX X (2 * q + 2) = _
  unfold evX
  rw [if_neg (by omega), if_neg (by omega), if_pos (by omega), show (2 * q + 2) / 2 - 1 = q by omega]
theorem evX_s {X : Cx} {q : Nat} (h : q < sTexts.length) : trV X (pE (2 * q + 1)) = .ref (xK X q) := by
  show evX X (2 * q + 1) = _
  unfold evX
  rw [if_neg (by omega), if_pos (by omega), show (2 * q + 1) / 2 = q by omega]
theorem st_alenB (hx : p.tables.exec = Jvm.exec) (hb : c.code = cc) (hE : EnvU X s s.heap) (hts : ∀ w ∈ AW, w.before args s = true) (hown : s.vm.findClass own = some m.cls) {q : Nat} (hq : q < sTexts.length) (hd : decode cc pc = .ok (.arraylength, 1))
    (k1 : WC X p l e R s m args below meth c Q nL (pc + 1) (L) (pI (sBytes q).length :: st) (G) (mi) (cells) (slots)) : WC X p l e R s m args below meth c Q nL (pc) (L) (pE (2 * q + 2) :: st) (G) (mi) (cells) (slots) := by
  intro ls H locs hI hL hO hS
  have hS2 := (List.forall_mem_cons.mp hS).2
  have hlen : in32 ((sBytes q).length : Int) := by have := (sb_in q hq).1; unfold in32; omega
  have kk := k1 ls H locs hI hL hO (List.forall_mem_cons.mpr ⟨hlen, hS2⟩)
  rw [List.map_cons, evX_b hq]
  exact va_tlen hx hb (hE.2.2.1.1 q hq).2.2.2 hI.2 (by rw [sb_len hq]; rfl) hd kk
theorem st_baldB (hx : p.tables.exec = Jvm.exec) (hb : c.code = cc) (hE : EnvU X s s.heap) (hts : ∀ w ∈ AW, w.before args s = true) (hown : s.vm.findClass own = some m.cls) {q : Nat} (hq : q < sTexts.length) (h0 : 0 ≤ a) (h1 : a < (sBytes q).length) (hd : decode cc pc = .ok (.baload, 1))
    (k1 : WC X p l e R s m args below meth c Q nL (pc + 1) (L) (pI ((sBytes q).getD a.toNat 0) :: st) (G) (mi) (cells) (slots)) : WC X p l e R s m args below meth c Q nL (pc) (L) (pI a :: pE (2 * q + 2) :: st) (G) (mi) (cells) (slots) := by
  intro ls H locs hI hL hO hS
  obtain ⟨hi1, hS1⟩ := List.forall_mem_cons.mp hS
  have hS2 := (List.forall_mem_cons.mp hS1).2
  have hj : a.toNat < (sBytes q).length := by omega
  have hm : (sBytes q).getD a.toNat 0 ∈ sBytes q := by rw [List.getD_eq_getElem?_getD, List.getElem?_eq_getElem hj]; exact List.getElem_mem hj
  have hv := (sb_in q hq).2 _ hm
  have kk := k1 ls H locs hI hL hO (List.forall_mem_cons.mpr ⟨show in32 _ by unfold in32; omega, hS2⟩)
  rw [List.map_cons, List.map_cons, evX_b hq]
  refine va_tb hx hb (hE.2.2.1.1 q hq).2.2.2 hI.2 (of_vp hi1 h0 (by rw [sb_len hq]; exact h1)) (v := .int (Int32.ofInt ((sBytes q).getD a.toNat 0))) ?_ hd kk
  rw [of_clamp hi1, sb_byt hq hj]
theorem st_gfS (hx : p.tables.exec = Jvm.exec) (hb : c.code = cc) (hE : EnvU X s s.heap) (hts : ∀ w ∈ AW, w.before args s = true) (hown : s.vm.findClass own = some m.cls) {q : Nat} (hq : q < sTexts.length) (hlink : (Cond.fieldLink own i "java/lang/String" "value" "[B").before args s = true) (hd : decode cc pc = .ok (.getfield i, 3))
    (k1 : WC X p l e R s m args below meth c Q nL (pc + 3) (L) (pE (2 * q + 2) :: st) (G) (mi) (cells) (slots)) : WC X p l e R s m args below meth c Q nL (pc) (L) (pE (2 * q + 1) :: st) (G) (mi) (cells) (slots) := by
  intro ls H locs hI hL hO hS
  have hS2 := (List.forall_mem_cons.mp hS).2
  have kk := k1 ls H locs hI hL hO (List.forall_mem_cons.mpr ⟨trivial, hS2⟩)
  rw [List.map_cons, evX_b hq] at kk
  rw [List.map_cons, evX_s hq]
  exact vk_getf hx hb (hE.2.2.1.1 q hq).2.2.1 hI.2 hown hlink (fun _ h => h) hd kk
theorem st_gfC (hx : p.tables.exec = Jvm.exec) (hb : c.code = cc) (hE : EnvU X s s.heap) (hts : ∀ w ∈ AW, w.before args s = true) (hown : s.vm.findClass own = some m.cls) {q : Nat} (hq : q < sTexts.length) (hlink : (Cond.fieldLink own i "java/lang/String" "coder" "B").before args s = true) (hd : decode cc pc = .ok (.getfield i, 3))
    (k1 : WC X p l e R s m args below meth c Q nL (pc + 3) (L) (pI 0 :: st) (G) (mi) (cells) (slots)) : WC X p l e R s m args below meth c Q nL (pc) (L) (pE (2 * q + 1) :: st) (G) (mi) (cells) (slots) := by
  intro ls H locs hI hL hO hS
  have hS2 := (List.forall_mem_cons.mp hS).2
  have kk := k1 ls H locs hI hL hO (List.forall_mem_cons.mpr ⟨in_0, hS2⟩)
  rw [List.map_cons, evX_s hq]
  exact vk_getf hx hb (hE.2.2.1.1 q hq).2.1 hI.2 hown hlink (fun _ h => h) hd kk
theorem st_gs0 (hx : p.tables.exec = Jvm.exec) (hb : c.code = cc) (hE : EnvU X s s.heap) (hts : ∀ w ∈ AW, w.before args s = true) (hown : s.vm.findClass own = some m.cls) (hlink : (Cond.fieldLink own i "java/lang/String" "COMPACT_STRINGS" "Z").before args s = true) (hd : decode cc pc = .ok (.getstatic i, 3))
    (k1 : WC X p l e R s m args below meth c Q nL (pc + 3) (L) (pI 1 :: st) (G) (mi) (cells) (slots)) : WC X p l e R s m args below meth c Q nL (pc) (L) (st) (G) (mi) (cells) (slots) := by
  intro ls H locs hI hL hO hS
  exact va_gets hx hb hE.2.2.2.2.1 hI.2 hown hlink (fun _ h => h) hd (k1 ls H locs hI hL hO (List.forall_mem_cons.mpr ⟨⟨by decide, by decide⟩, hS⟩))
theorem st_gs1 (hx : p.tables.exec = Jvm.exec) (hb : c.code = cc) (hE : EnvU X s s.heap) (hts : ∀ w ∈ AW, w.before args s = true) (hown : s.vm.findClass own = some m.cls) (hlink : (Cond.fieldLink own i "jdk/internal/util/Preconditions" "SIOOBE_FORMATTER" "Ljava/util/function/BiFunction;").before args s = true) (hd : decode cc pc = .ok (.getstatic i, 3))
    (k1 : WC X p l e R s m args below meth c Q nL (pc + 3) (L) (pE 1000 :: st) (G) (mi) (cells) (slots)) : WC X p l e R s m args below meth c Q nL (pc) (L) (st) (G) (mi) (cells) (slots) := by
  intro ls H locs hI hL hO hS
  have kk := k1 ls H locs hI hL hO (List.forall_mem_cons.mpr ⟨trivial, hS⟩)
  have e1 : trV X (pE 1000) = xF X := by
    show evX X 1000 = _
    unfold evX
    rw [if_neg (by decide), if_neg (by decide), if_neg (by decide)]
  rw [List.map_cons, e1] at kk
  exact va_gets hx hb hE.2.2.2.2.2.1.1 hI.2 hown hlink (fun _ h => h) hd kk
theorem W_size {H : Heap} {locs : List Loc} {g : JFrame} (h : H.size ≤ s.heap.size + cells → W p l e R s m args below meth c H locs cells slots Q g) : W p l e R s m args below meth c H locs cells slots Q g := by
  intro T hT XX
  have h1 : (T.setVm s.vm).heap.size ≤ s.heap.size + cells := XX.same.2.2.1
  exact h (by rw [← hT]; exact h1) T hT XX
theorem size_ge {H : Heap} {locs : List Loc} (hI : Inv X G mi s H locs) (hb : xb X ≤ s.heap.size) : xb X + gN G ≤ H.size := by
  by_cases h : gN G = 0
  · have := hI.2.1
    omega
  · have hg := wlX_get (X := X) (G := G) (mi := mi) (o := gN G - 1) (by omega)
    have := (hI.1.1 _ _ hg).lt
    have e1 : xb X + (gN G - 1) < H.size := this
    omega
theorem wlX_new {kd : Nat × Nat} {sl : Nat} {en : va_E} (he : entX X (newG G kd sl) (newM G mi) (gN G) = en) : wlX X G mi ++ [(xb X + gN G, en)] = wlX X (newG G kd sl) (newM G mi) := by
  have h1 : gN (newG G kd sl) = gN G + 1 := rfl
  subst he
  unfold wlX
  rw [h1, List.range_succ, List.map_append]
  congr 1
  apply List.map_congr_left
  intro o ho
  have hlt := List.mem_range.mp ho
  have hne : ¬ o = gN G := by omega
  have e1 : gK (newG G kd sl) o = gK G o := by show (if o = gN G then kd else gK G o) = _; rw [if_neg hne]
  have e2 : ∀ j, gR (newG G kd sl) o j = gR G o j := fun j => by show (if o = gN G then none else gR G o j) = _; rw [if_neg hne]
  have e3 : newM G mi o = mi o := by funext j; show (if o = gN G then 0 else mi o j) = _; rw [if_neg hne]
  unfold entX fvs
  rw [e1, e3]
  simp only [e2]
theorem newM_in (h : ∀ a j, in32 (mi a j)) : ∀ a j, in32 (newM G mi a j) := by
  intro a j
  unfold newM
  split
  · exact in_0
  · exact h a j
theorem newG_ok {kd : Nat × Nat} {sl : Nat} (h : gOK X G) (h1 : kd.1 ≤ 13 ∨ 20 ≤ kd.1 ∧ kd.1 ≤ 22) (h2 : kd.2 < 100000) : gOK X (newG G kd sl) := by
  obtain ⟨g1, g2, g3, g4, g5⟩ := h
  refine ⟨fun o ho => ?_, fun o => ?_, fun o => ?_, g4, g5⟩
  · show o < gN G + 1
    by_cases e1 : o = gN G
    · omega
    · have e2 : gK (newG G kd sl) o = gK G o := by show (if o = gN G then kd else gK G o) = _; rw [if_neg e1]
      rw [e2] at ho
      have := g1 o ho
      omega
  · show ((if o = gN G then kd else gK G o).1 ≤ 13 ∨ _)
    show ((if o = gN G then kd else gK G o).1 ≤ 13 ∨ 20 ≤ (if o = gN G then kd else gK G o).1 ∧ (if o = gN G then kd else gK G o).1 ≤ 22)
    split
    · exact h1
    · exact g2 o
  · show (if o = gN G then kd else gK G o).2 < 100000
    split
    · exact h2
    · exact g3 o
theorem st_new (hx : p.tables.exec = Jvm.exec) (hb : c.code = cc) (hE : EnvU X s s.heap) (hts : ∀ w ∈ AW, w.before args s = true) (hown : s.vm.findClass own = some m.cls) (hxb : xb X ≤ s.heap.size) (hcs : s.heap.size + cells = xb X + gN G) (h13 : ci < 13) (hcl : (Cond.classLink own i (clCc ci).1).before args s = true) (hinst : (Cond.instantiable (clCc ci).1 (clCc ci).2.2).before args s = true) (hini : (Cond.initialized (clCc ci).1).before args s = true) (hcells : cells + 1 ≤ R.cells) (hslots : slots + clN ci ≤ R.slots) (hd : decode cc pc = .ok (.new i, 3))
    (k1 : WC X p l e R s m args below meth c Q nL (pc + 3) (L) (pR (some (gN G)) :: st) (newG G (ci + 1, 0) (clN ci)) (newM G mi) (cells + 1) (slots + clN ci)) : WC X p l e R s m args below meth c Q nL (pc) (L) (st) (G) (mi) (cells) (slots) := by
  intro ls H locs hI hL hO hS
  refine W_size fun hz => ?_
  have hsz : H.size = xb X + gN G := by have := size_ge hI hxb; omega
  have hKn := hE.1.1 ci _ (cl_get h13)
  refine W.newcK hx hb hown hcl hinst hini rfl hd hcells (by rw [cl_N h13]; exact hslots) hKn.2.1 hsz fun H1 kC hkC e1 z1 o1 => ?_
  have hborn := u_born (tyC ci) hts (cl_in h13) hKn hkC e1 (cl_ty h13)
  have hen : entX X (newG G (ci + 1, 0) (clN ci)) (newM G mi) (gN G) = .inr (ci, fvs X (newG G (ci + 1, 0) (clN ci)) (newM G mi) (gN G) ci) := entX_obj (by show (if gN G = gN G then (ci + 1, 0) else _).1 = _; rw [if_pos rfl]) h13
  have hP1 : va_P (xD X) vwCl (wlX X (newG G (ci + 1, 0) (clN ci)) (newM G mi)) H1 := by
    rw [← wlX_new hen]
    refine (hI.1.1.kept (fun k x hx => o1 x.1 (by rw [← hsz]; exact (hI.1.1 k x hx).lt))).app (fun k x hx => ?_)
    have hz : k < 1 := (List.getElem?_eq_some_iff.mp hx).1
    rw [show k = 0 by omega] at hx
    cases hx
    refine ⟨_, cl_get h13, hborn.to (fun j hj => ?_)⟩
    rw [cl_N h13] at hj
    have hv := fvs_get (X := X) (G := newG G (ci + 1, 0) (clN ci)) (mi := newM G mi) (o := gN G) hj
    show _ = (fvs X _ _ _ ci).getD j .null
    rw [List.getD_eq_getElem?_getD, hv]
    have e2 : gR (newG G (ci + 1, 0) (clN ci)) (gN G) j = none := by show (if gN G = gN G then none else _) = _; rw [if_pos rfl]
    have e3 : newM G mi (gN G) j = 0 := by show (if gN G = gN G then 0 else _) = _; rw [if_pos rfl]
    by_cases hr : rfF ci j = true
    · have h4 := cl_rf h13 hj hr
      rw [if_pos hr, e2]
      show defaultValue (tyC ci j) = Value.null
      cases ht : tyC ci j <;> rw [ht] at h4 <;> first | rfl | (cases h4)
    · have hr' : rfF ci j = false := by simpa using hr
      rw [if_neg hr, e3]
      show defaultValue (tyC ci j) = Value.int (Int32.ofInt 0)
      rcases cl_nrf h13 hj hr' with h | h <;> rw [h] <;> rfl
  have hS3 : va_S (AX X) s.heap H1 locs := ⟨Nat.le_trans hI.2.1 (by omega), fun q g1 g2 => (o1 q (by rw [← hsz]; exact Nat.lt_of_lt_of_le g1 hI.2.1)).trans (hI.2.2.1 q g1 g2), hI.2.2.2⟩
  have kk := k1 ls H1 locs ⟨⟨hP1, newM_in hI.1.2.1, newG_ok hI.1.2.2 (Or.inl (by show ci + 1 ≤ 13; omega)) (by show 0 < 100000; decide)⟩, hS3⟩ hL hO (List.forall_mem_cons.mpr ⟨trivial, hS⟩)
  rw [cl_N h13]
  exact kk
theorem st_newai (hx : p.tables.exec = Jvm.exec) (hb : c.code = cc) (hE : EnvU X s s.heap) (hts : ∀ w ∈ AW, w.before args s = true) (hown : s.vm.findClass own = some m.cls) (hxb : xb X ≤ s.heap.size) (hcs : s.heap.size + cells = xb X + gN G) (harr : (Cond.arrayClass (newarray.typeOf .int)).before args s = true) (h0 : 0 ≤ a) (h1 : a < 100000) (hcells : cells + 1 ≤ R.cells) (hslots : slots + a.toNat ≤ R.slots) (hd : decode cc pc = .ok (.newarray .int, 2))
    (k1 : WC X p l e R s m args below meth c Q nL (pc + 2) (L) (pR (some (gN G)) :: st) (newG G (20, a.toNat) a.toNat) (newM G mi) (cells + 1) (slots + a.toNat)) : WC X p l e R s m args below meth c Q nL (pc) (L) (pI a :: st) (G) (mi) (cells) (slots) := by
  intro ls H locs hI hL hO hS
  obtain ⟨hi1, hS2⟩ := List.forall_mem_cons.mp hS
  refine W_size fun hz => ?_
  have hsz : H.size = xb X + gN G := by have := size_ge hI hxb; omega
  refine va_newaK (atype := .int) hx hb harr rfl hd rfl (fun q => by have := (of_lt hi1 in_0).mp q; omega) (of_clamp hi1) (Nat.le_trans (Nat.mul_le_mul (by omega : a.toNat ≤ 100000) (Nat.le_of_ble_eq_true rfl : componentBytes (newarray.typeOf .int) ≤ 8)) (Nat.le_of_ble_eq_true rfl)) hcells hslots hsz fun H1 cA e1 z1 o1 hAr hNm => ?_
  have hA : cA = xI X := Option.some.inj (hNm.symm.trans (hE.1.2 0 _ rfl).2)
  subst hA
  have hen : entX X (newG G (20, a.toNat) a.toNat) (newM G mi) (gN G) = .inl (xI X, a.toNat, .inl fun _ => 0) := by
    have e0 : gK (newG G (20, a.toNat) a.toNat) (gN G) = (20, a.toNat) := by show (if gN G = gN G then _ else _) = _; rw [if_pos rfl]
    rw [entX_i (by rw [e0])]
    rw [e0]
    have e3 : ∀ j, newM G mi (gN G) j = 0 := fun j => by show (if gN G = gN G then 0 else _) = _; rw [if_pos rfl]
    simp only [e3]
    rfl
  have hP1 : va_P (xD X) vwCl (wlX X (newG G (20, a.toNat) a.toNat) (newM G mi)) H1 := by
    rw [← wlX_new hen]
    refine (hI.1.1.kept (fun k x hx => o1 x.1 (by rw [← hsz]; exact (hI.1.1 k x hx).lt))).app (fun k x hx => ?_)
    have hz : k < 1 := (List.getElem?_eq_some_iff.mp hx).1
    rw [show k = 0 by omega] at hx
    cases hx
    exact e1
  have hS3 : va_S (AX X) s.heap H1 locs := ⟨Nat.le_trans hI.2.1 (by omega), fun q g1 g2 => (o1 q (by rw [← hsz]; exact Nat.lt_of_lt_of_le g1 hI.2.1)).trans (hI.2.2.1 q g1 g2), hI.2.2.2⟩
  exact k1 ls H1 locs ⟨⟨hP1, newM_in hI.1.2.1, newG_ok hI.1.2.2 (Or.inr ⟨Nat.le_of_ble_eq_true rfl, Nat.le_of_ble_eq_true rfl⟩) (by show a.toNat < 100000; omega)⟩, hS3⟩ hL hO (List.forall_mem_cons.mpr ⟨trivial, hS2⟩)
theorem st_newaz (hx : p.tables.exec = Jvm.exec) (hb : c.code = cc) (hE : EnvU X s s.heap) (hts : ∀ w ∈ AW, w.before args s = true) (hown : s.vm.findClass own = some m.cls) (hxb : xb X ≤ s.heap.size) (hcs : s.heap.size + cells = xb X + gN G) (harr : (Cond.arrayClass (newarray.typeOf .boolean)).before args s = true) (h0 : 0 ≤ a) (h1 : a < 100000) (hcells : cells + 1 ≤ R.cells) (hslots : slots + a.toNat ≤ R.slots) (hd : decode cc pc = .ok (.newarray .boolean, 2))
    (k1 : WC X p l e R s m args below meth c Q nL (pc + 2) (L) (pR (some (gN G)) :: st) (newG G (21, a.toNat) a.toNat) (newM G mi) (cells + 1) (slots + a.toNat)) : WC X p l e R s m args below meth c Q nL (pc) (L) (pI a :: st) (G) (mi) (cells) (slots) := by
  intro ls H locs hI hL hO hS
  obtain ⟨hi1, hS2⟩ := List.forall_mem_cons.mp hS
  refine W_size fun hz => ?_
  have hsz : H.size = xb X + gN G := by have := size_ge hI hxb; omega
  refine va_newaK (atype := .boolean) hx hb harr rfl hd rfl (fun q => by have := (of_lt hi1 in_0).mp q; omega) (of_clamp hi1) (Nat.le_trans (Nat.mul_le_mul (by omega : a.toNat ≤ 100000) (Nat.le_of_ble_eq_true rfl : componentBytes (newarray.typeOf .boolean) ≤ 8)) (Nat.le_of_ble_eq_true rfl)) hcells hslots hsz fun H1 cA e1 z1 o1 hAr hNm => ?_
  have hA : cA = xZ X := Option.some.inj (hNm.symm.trans (hE.1.2 1 _ rfl).2)
  subst hA
  have hen : entX X (newG G (21, a.toNat) a.toNat) (newM G mi) (gN G) = .inl (xZ X, a.toNat, .inl fun _ => 0) := by
    have e0 : gK (newG G (21, a.toNat) a.toNat) (gN G) = (21, a.toNat) := by show (if gN G = gN G then _ else _) = _; rw [if_pos rfl]
    rw [entX_z (by rw [e0])]
    rw [e0]
    have e3 : ∀ j, newM G mi (gN G) j = 0 := fun j => by show (if gN G = gN G then 0 else _) = _; rw [if_pos rfl]
    simp only [e3]
    rfl
  have hP1 : va_P (xD X) vwCl (wlX X (newG G (21, a.toNat) a.toNat) (newM G mi)) H1 := by
    rw [← wlX_new hen]
    refine (hI.1.1.kept (fun k x hx => o1 x.1 (by rw [← hsz]; exact (hI.1.1 k x hx).lt))).app (fun k x hx => ?_)
    have hz : k < 1 := (List.getElem?_eq_some_iff.mp hx).1
    rw [show k = 0 by omega] at hx
    cases hx
    exact e1
  have hS3 : va_S (AX X) s.heap H1 locs := ⟨Nat.le_trans hI.2.1 (by omega), fun q g1 g2 => (o1 q (by rw [← hsz]; exact Nat.lt_of_lt_of_le g1 hI.2.1)).trans (hI.2.2.1 q g1 g2), hI.2.2.2⟩
  exact k1 ls H1 locs ⟨⟨hP1, newM_in hI.1.2.1, newG_ok hI.1.2.2 (Or.inr ⟨Nat.le_of_ble_eq_true rfl, Nat.le_of_ble_eq_true rfl⟩) (by show a.toNat < 100000; omega)⟩, hS3⟩ hL hO (List.forall_mem_cons.mpr ⟨trivial, hS2⟩)
theorem st_anewa (hx : p.tables.exec = Jvm.exec) (hb : c.code = cc) (hE : EnvU X s s.heap) (hts : ∀ w ∈ AW, w.before args s = true) (hown : s.vm.findClass own = some m.cls) (hxb : xb X ≤ s.heap.size) (hcs : s.heap.size + cells = xb X + gN G) (hclink : (Cond.classLink own i "CoinTelescope$Thing").before args s = true) (h0 : 0 ≤ a) (h1 : a < 100000) (hcells : cells + 1 ≤ R.cells) (hslots : slots + a.toNat ≤ R.slots) (hd : decode cc pc = .ok (.anewarray i, 3))
    (k1 : WC X p l e R s m args below meth c Q nL (pc + 3) (L) (pR (some (gN G)) :: st) (newG G (22, a.toNat) a.toNat) (newM G mi) (cells + 1) (slots + a.toNat)) : WC X p l e R s m args below meth c Q nL (pc) (L) (pI a :: st) (G) (mi) (cells) (slots) := by
  intro ls H locs hI hL hO hS
  obtain ⟨hi1, hS2⟩ := List.forall_mem_cons.mp hS
  refine W_size fun hz => ?_
  have hsz : H.size = xb X + gN G := by have := size_ge hI hxb; omega
  have hen : entX X (newG G (22, a.toNat) a.toNat) (newM G mi) (gN G) = .inl (xT X, a.toNat, .inr (.inr (.inr (.inr fun _ => none)))) := by
    have e0 : gK (newG G (22, a.toNat) a.toNat) (gN G) = (22, a.toNat) := by show (if gN G = gN G then _ else _) = _; rw [if_pos rfl]
    have e2 : ∀ j, gR (newG G (22, a.toNat) a.toNat) (gN G) j = none := fun j => by show (if gN G = gN G then none else _) = _; rw [if_pos rfl]
    rw [entX_q (by rw [e0])]
    rw [e0]
    simp only [e2]
    rfl
  have hclamp : (Int32.ofInt a).toNatClampNeg = a.toNat := of_clamp hi1
  refine W.anew hx hb hown hclink (va_AO.use hE.2.2.2.2.2.2.2.2.2) rfl hd rfl (fun q => by have := (of_lt hi1 in_0).mp q; omega) (by rw [hclamp]; omega) hcells (by rw [hclamp]; exact hslots) fun cA kA comp f1 f2 f3 f4 => ?_
  obtain ⟨kA', comp', q1, q2, q3, q4⟩ := (hE.1.2 2 _ rfl).2
  have hA : cA = xT X := by
    first
      | exact Option.some.inj (f1.symm.trans q4)
      | exact Option.some.inj (f4.symm.trans q4)
  subst hA
  generalize hH1 : H.push ({ cls := xT X, slots := Array.replicate (Int32.ofInt a).toNatClampNeg .null, vm := .none } : Cell) = H1
  have z1 : H1.size = H.size + 1 := by rw [← hH1, Array.size_push]
  have e1 : H1[xb X + gN G]? = some (arrV (xT X) a.toNat (fun _ => .null)) := by rw [← hH1, ← hsz, Array.getElem?_push_size, ← arrV_new, hclamp]
  have o1 : ∀ q : Nat, q < H.size → H1[q]? = H[q]? := fun q hq => by rw [← hH1, Array.getElem?_push, if_neg (Nat.ne_of_lt hq)]
  have hP1 : va_P (xD X) vwCl (wlX X (newG G (22, a.toNat) a.toNat) (newM G mi)) H1 := by
    rw [← wlX_new hen]
    refine (hI.1.1.kept (fun k x hx => o1 x.1 ((hI.1.1 k x hx).lt))).app (fun k x hx => ?_)
    have hz : k < 1 := (List.getElem?_eq_some_iff.mp hx).1
    rw [show k = 0 by omega] at hx
    cases hx
    exact e1
  have hS3 : va_S (AX X) s.heap H1 locs := ⟨Nat.le_trans hI.2.1 (by omega), fun q g1 g2 => (o1 q (Nat.lt_of_lt_of_le g1 hI.2.1)).trans (hI.2.2.1 q g1 g2), hI.2.2.2⟩
  have kk := k1 ls H1 locs ⟨⟨hP1, newM_in hI.1.2.1, newG_ok hI.1.2.2 (Or.inr ⟨Nat.le_of_ble_eq_true rfl, Nat.le_of_ble_eq_true rfl⟩) (by show a.toNat < 100000; omega)⟩, hS3⟩ hL hO (List.forall_mem_cons.mpr ⟨trivial, hS2⟩)
  rw [List.map_cons, show trV X (pR (some (gN G))) = .ref (xb X + gN G) from rfl, ← hsz] at kk
  rw [← hclamp] at kk
  exact kk
theorem st_inst (hx : p.tables.exec = Jvm.exec) (hb : c.code = cc) (hE : EnvU X s s.heap) (hts : ∀ w ∈ AW, w.before args s = true) (hown : s.vm.findClass own = some m.cls) {nm : String} {v : Int} (hci : (gK G o).1 = ci + 1) (h13 : ci < 13) (hlink : (Cond.classLink own i nm).before args s = true) (hv : (v = 1 ∧ ((clCc ci).1 = nm ∨ ((clCc ci).1, nm) ∈ castL)) ∨ (v = 0 ∧ ((clCc ci).1, nm) ∈ ncastL)) (hd : decode cc pc = .ok (.instanceof i, 3))
    (k1 : WC X p l e R s m args below meth c Q nL (pc + 3) (L) (pI v :: st) (G) (mi) (cells) (slots)) : WC X p l e R s m args below meth c Q nL (pc) (L) (pR (some o) :: st) (G) (mi) (cells) (slots) := by
  intro ls H locs hI hL hO hS
  have hS2 := (List.forall_mem_cons.mp hS).2
  have ho : o < gN G := hI.1.2.2.1 o (by omega)
  have hg := wlX_get (X := X) (mi := mi) ho
  rw [entX_obj hci h13] at hg
  have hr := va_recv hE.1 hI.1.1 (cl_get h13) hg
  rcases hv with ⟨rfl, h | h⟩ | ⟨rfl, h⟩
  · exact va_instS (cC := (xD X).1 ci) hx hb hown hlink (by rw [← h]; exact (hE.1.1 ci _ (cl_get h13)).2) (by rw [← h]; exact hr) hd (k1 ls H locs hI hL hO (List.forall_mem_cons.mpr ⟨⟨by decide, by decide⟩, hS2⟩))
  · exact va_instY hx hb hown hlink (hE.2.2.2.2.2.2.2.1 _ h) hr hd (k1 ls H locs hI hL hO (List.forall_mem_cons.mpr ⟨⟨by decide, by decide⟩, hS2⟩))
  · exact va_instNo hx hb hown hlink (hE.2.2.2.2.2.2.2.2.1 _ h) hr hd (k1 ls H locs hI hL hO (List.forall_mem_cons.mpr ⟨⟨by decide, by decide⟩, hS2⟩))
end ST3
