import java.io.IOException;
import java.io.UncheckedIOException;
import java.nio.file.Files;
import java.nio.file.Path;
import java.util.ArrayList;
import java.util.LinkedHashMap;
import java.util.List;
import java.util.Map;
import java.util.regex.Matcher;
import java.util.regex.Pattern;

/** The document, parted into its places ("Term 5", "Promise 12") and their sentences. */
final class DocText {
  private static final Path DOCUMENT = Path.of("../shared/DOC.md");
  private static final Pattern TERM = Pattern.compile("([1-8]) [A-Z].*");
  private static final Pattern PROMISE = Pattern.compile("## (Promise \\d+): .*");

  private final Map<String, List<String>> sentences = new LinkedHashMap<>();
  private String place = "Top";

  static DocText read() {
    try {
      return new DocText(Files.readString(DOCUMENT));
    } catch (IOException e) {
      throw new UncheckedIOException(e);
    }
  }

  private DocText(String text) {
    int start = text.indexOf("An object is used");
    int face = text.indexOf("## The public face");
    int terms = text.indexOf("## Terms");
    int end = text.indexOf("## Not promised");
    for (String line : (text.substring(start, face) + text.substring(terms, end)).split("\n")) {
      takeLine(line);
    }
  }

  private void takeLine(String marked) {
    String line = marked.replace("`", "").trim();
    Matcher term = TERM.matcher(line);
    Matcher promise = PROMISE.matcher(line);
    if (promise.matches()) {
      place = promise.group(1);
    } else if (line.equals("## Terms")) {
      place = "Terms";
    } else if (place.startsWith("Term") && term.matches()) {
      place = "Term " + term.group(1);
      takeSentences(line.substring(2));
    } else if (line.startsWith("A method that throws")) {
      place = "All calls";
      takeSentences(line);
    } else if (place.startsWith("Promise") && marked.startsWith("`")) {
      // The face of the method, and behind it what it does or its first argument.
      takeSentences(line.substring(line.indexOf(": ") + 2));
    } else {
      takeSentences(line);
    }
  }

  /** Not the headings, nor what only names an argument, nor how the face is ordered. */
  private void takeSentences(String text) {
    if (text.isEmpty() || text.equals("text") || text.startsWith("- ")) {
      return;
    }
    for (String sentence : text.split("(?<=\\.) (?=[A-Z])")) {
      if (!sentence.matches("[A-Z]+\\.") && !sentence.startsWith("Ahead of the calls")) {
        sentences.computeIfAbsent(place, p -> new ArrayList<>()).add(sentence);
      }
    }
  }

  List<String> places() {
    return new ArrayList<>(sentences.keySet());
  }

  List<String> sentencesOf(String of) {
    return sentences.getOrDefault(of, List.of());
  }
}
