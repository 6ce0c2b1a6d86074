import java.nio.ByteBuffer;
import java.security.MessageDigest;
import java.security.NoSuchAlgorithmException;

/** SHA-256 of words by the Java library, to compare the class's own with. */
final class Sha {
  private Sha() { }

  static int[] of(int... words) {
    ByteBuffer bytes = ByteBuffer.allocate(words.length * 4);
    for (int word : words) {
      bytes.putInt(word);
    }
    try {
      ByteBuffer digest = ByteBuffer.wrap(MessageDigest.getInstance("SHA-256").digest(bytes.array()));
      int[] answer = new int[8];
      for (int i = 0; i < 8; i++) {
        answer[i] = digest.getInt();
      }
      return answer;
    } catch (NoSuchAlgorithmException e) {
      throw new IllegalStateException(e);
    }
  }

  static int[] join(int[]... rows) {
    int n = 0;
    for (int[] row : rows) {
      n += row.length;
    }
    int[] all = new int[n];
    int at = 0;
    for (int[] row : rows) {
      System.arraycopy(row, 0, all, at, row.length);
      at += row.length;
    }
    return all;
  }

  static int[] words(int... words) {
    return words;
  }

  /** What a MEASUREMENT becomes as it is EXTENDED. */
  static int[] extended(int[] measurement, int[]... by) {
    return of(join(measurement, join(by)));
  }
}
