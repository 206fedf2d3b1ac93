import java.util.LinkedHashSet;
import java.util.List;
import java.util.Set;

/**
 * Checks that are told by the sentence of the document that they stand for. At the end each sentence
 * of the places that a test goes through must have had checks of its own.
 */
final class Edges {
  static final Class<IllegalArgumentException> ARGUMENT = IllegalArgumentException.class;
  static final Class<IndexOutOfBoundsException> INDEX = IndexOutOfBoundsException.class;
  static final Class<IllegalStateException> STATE = IllegalStateException.class;

  interface Maker {
    GreyReel make();
  }

  interface CallOn {
    Object answer(GreyReel x);
  }

  private final DocText doc = DocText.read();
  private final Checks checks;
  private final Set<String> tested = new LinkedHashSet<>();
  private String label = "";
  private int checksBefore = 0;

  Edges(String name) {
    checks = new Checks(name);
  }

  /** What is checked from here on stands for a sentence, told by words that are in it alone. */
  void sentence(String place, String words) {
    endSentence();
    int found = 0;
    for (String sentence : doc.sentencesOf(place)) {
      if (sentence.contains(words)) {
        tested.add(place + sentence);
        found++;
      }
    }
    checks.due("sentences of " + place + " with \"" + words + "\"", found, 1);
    label = place + ", \"" + words + "\": ";
    checksBefore = checks.made();
  }

  private void endSentence() {
    if (!label.isEmpty()) {
      checks.holds(label + "has checks of its own", checks.made() > checksBefore);
    }
  }

  void due(String what, Object got, Object want) {
    checks.due(label + what, got, want);
  }

  void holds(String what, boolean isSo) {
    checks.holds(label + what, isSo);
  }

  /** Whatever can be told of an object behind a refused call is what it is without that call. */
  void refused(String what, Class<? extends RuntimeException> e, Maker maker, CallOn call) {
    GreyReel x = maker.make();
    checks.refuses(label + what, e, () -> call.answer(x));
    checks.due(label + what + ", refused, changes", future(x), future(maker.make()));
  }

  void takes(String what, Maker maker, CallOn call) {
    String got = "taken";
    try {
      call.answer(maker.make());
    } catch (RuntimeException e) {
      got = e.getClass().getSimpleName();
    }
    checks.due(label + what, got, "taken");
  }

  private static String future(GreyReel x) {
    StringBuilder told = new StringBuilder();
    told.append(x.digest()).append(' ').append(x.driftNext()).append(' ').append(x.meanError());
    // A second KEY asked for would be told by askKey, and by the next picture.
    for (int i = 0; i < 2 && x.pictures() < 24; i++) {
      told.append(' ').append(x.code()).append(' ').append(x.isKey(x.pictures() - 1));
    }
    told.append(' ').append(x.askKey()).append(' ').append(x.setTarget(0));
    told.append(' ').append(x.setInterval(12)).append(' ').append(x.setSmoothing(true));
    while (x.shown() < x.pictures()) {
      told.append(' ').append(x.show());
    }
    return told.append(' ').append(x.digest()).toString();
  }

  /** All sentences of these places were tested, but for those that only tell what comes. */
  void end(List<String> places, Set<String> withoutEdge) {
    endSentence();
    for (String place : places) {
      checks.holds(place + " is in the document", !doc.sentencesOf(place).isEmpty());
      for (String sentence : doc.sentencesOf(place)) {
        boolean isPlain = withoutEdge.stream().anyMatch(sentence::startsWith);
        String what = place + ", tested: " + sentence;
        checks.due(what, tested.contains(place + sentence), !isPlain);
      }
    }
    checks.end();
  }
}
