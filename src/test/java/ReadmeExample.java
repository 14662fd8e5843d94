import java.nio.file.Files;
import java.nio.file.Path;
import java.util.ArrayList;
import java.util.List;

/** The example of README.md: it stands there as it does here, and answers what it says. */
public final class ReadmeExample {
  private static int wrong = 0;

  public static void main(String[] args) throws Exception {
    if (!block("README.md", "```java", "```").equals(block("src/test/java/ReadmeExample.java", "// example", "// till here"))) {
      wrong++;
      System.out.println("the example of README.md isn't the one that is tried");
    }
    example();
    System.out.println(wrong == 0 ? "the example of README.md holds" : wrong + " things about the example don't hold");
    if (wrong != 0) System.exit(1);
  }

  private static void example() {
    // example
    KiltRoom room = new KiltRoom();
    int bytes = room.feed(6, 0x3B3362203561L);       // 6: THE TAPE is "a5 b3;", the lowest byte first
    int sett = room.sett();                          // 0; its PERIOD is 8, THE TAPE is empty again
    int bolt = room.bolt(sett, 3000);                // 0: 3000 threads
    int flaws = room.flaw(bolt, 7);                  // 1: there is one FLAW, at THREAD 7
    int kilt = room.kilt(0, 620, 620, 0);            // 0: PLAIN, INCH 6, HIP 20, 6 PLEATS, WAIST 20, STRIPE 0
    int used = room.lay(kilt, bolt);                 // 232: USED of THE LAYING
    int over = room.laid(kilt, 0);                   // 12: the over APRON begins behind the FLAW
    int colour = room.shown(kilt, 5, false);         // 1: the sixth thread at the hip is of COLOUR b
    int width = room.let(kilt, -1);                  // 9: taken in by a thread
    int turned = room.turn(kilt);                    // 1: turned end for end
    long price = room.says(kilt, 0);                 // 756: used * 3 + pleats * 10
    String told = "price used * 2; fit shown < 10;";
    for (int i = 0; i < told.length(); i++) {
        room.feed(1, told.charAt(i));
    }
    int text = room.text();                          // 1: TEXT 0 was there from the first
    int was = room.force(text);                      // 0: TEXT 1 is THE RULE now
    long dearer = room.says(kilt, 0);                // 464
    long fits = room.says(kilt, 1);                  // 1: it does
    int cut = room.band(1 << kilt);                  // 1: of the band's one KILT, one can be cut
    int from = room.from(kilt);                      // 0: from BOLT 0
    int refused = room.lay(kilt, 4);                 // -2: BAD, there is no BOLT 4
    // till here
    due("feed", bytes, 6);
    due("sett", sett, 0);
    due("bolt", bolt, 0);
    due("flaw", flaws, 1);
    due("kilt", kilt, 0);
    due("lay", used, 232);
    due("laid", over, 12);
    due("shown", colour, 1);
    due("let", width, 9);
    due("turn", turned, 1);
    due("says by THE RULE", price, 756);
    due("text", text, 1);
    due("force", was, 0);
    due("says 0 by TEXT 1", dearer, 464);
    due("says 1 by TEXT 1", fits, 1);
    due("band", cut, 1);
    due("from", from, 0);
    due("lay of no BOLT", refused, KiltRoom.BAD);
  }

  private static void due(String call, long got, long want) {
    if (got == want) return;
    wrong++;
    System.out.println(call + " answered " + got + ", due is " + want);
  }

  /** The lines between two, without what indents them all; the first such block of a file. */
  private static List<String> block(String file, String first, String last) throws Exception {
    List<String> lines = new ArrayList<>();
    boolean inside = false;
    int indent = 0;
    for (String line : Files.readAllLines(Path.of(file))) {
      if (inside && line.strip().equals(last)) return lines;
      if (inside) lines.add(line.substring(Math.min(indent, line.length())));
      if (!inside && line.strip().equals(first)) {
        inside = true;
        indent = line.indexOf(first);
      }
    }
    throw new IllegalStateException(file + " has no lines between " + first + " and " + last);
  }
}
